set_option maxHeartbeats 4000000 in
set_option maxRecDepth 100000 in
theorem c_Model_done (l : Launch) (D : va_G) (cI cZ : ClassId) (hz : Nat) (mo mp mq mr mw mt ml mk mv : Nat) (kd : Int32) (n : Nat) (fo fn fR fW fs fl fk fv : Nat → Int32) (fa : Nat → Int32) (x y z : Int32) (hk : kd = 0 ∨ kd = 1 ∨ kd = 2 ∨ kd = 3) (hn : n ≤ 64) (h0n : 0 < n) (hfa : fa 0 = x ∧ fa 1 = y ∧ fa 2 = z) (hgood : Good kd (acOf kd) n fo fn) : Met l y_Model_done w_Model_done (rmk 1) (va_Pc [.ref mo, .int x, .int y, .int z] (MY D cI cZ [(mo, .inr (4, [.int kd, .ref mp, .ref mq, .int (nI n), .ref mr, .ref mw, .ref mt, .ref ml, .ref mk, .ref mv, .int 0, .int 0, .int 0])), (mp, .inl (cI, 64, .inl fo)), (mq, .inl (cI, 64, .inl fn)), (mr, .inl (cI, 576, .inl fR)), (mw, .inl (cZ, 64, .inl fW)), (mt, .inl (cI, 8, .inl fs)), (ml, .inl (cI, 4, .inl fl)), (mk, .inl (cI, 20, .inl fk)), (mv, .inl (cI, 20, .inl fv))] hz)) (va_Qi (fun (r : Int32) (u : Int32 × Int32 × Int32 × (Nat → Int32) × (Nat → Int32) × (Nat → Int32) × (Nat → Int32)) => ∃ (o1 hgt1 ap1 : Int32), m_loop kd fo fn 300 3 (0, 0, 0, fk, fv, fa, fun _ => 0, fs, 0, 0) = (o1, (u.1, u.2.1, u.2.2.1, u.2.2.2.1, u.2.2.2.2.1, fa, u.2.2.2.2.2.1, u.2.2.2.2.2.2, hgt1, ap1)) ∧ r = if o1 = 3 then 2 else o1) (fun u t => ME D (va_A [(mo, .inr (4, [.int kd, .ref mp, .ref mq, .int (nI n), .ref mr, .ref mw, .ref mt, .ref ml, .ref mk, .ref mv, .int 0, .int 0, .int 0])), (mp, .inl (cI, 64, .inl fo)), (mq, .inl (cI, 64, .inl fn)), (mr, .inl (cI, 576, .inl fR)), (mw, .inl (cZ, 64, .inl fW)), (mt, .inl (cI, 8, .inl fs)), (ml, .inl (cI, 4, .inl fl)), (mk, .inl (cI, 20, .inl fk)), (mv, .inl (cI, 20, .inl fv))] hz) [(mo, .inr (4, [.int kd, .ref mp, .ref mq, .int (nI n), .ref mr, .ref mw, .ref mt, .ref ml, .ref mk, .ref mv, .int u.2.2.1, .int u.2.1, .int u.1])), (mp, .inl (cI, 64, .inl fo)), (mq, .inl (cI, 64, .inl fn)), (mr, .inl (cI, 576, .inl fR)), (mw, .inl (cZ, 64, .inl fW)), (mt, .inl (cI, 8, .inl u.2.2.2.2.2.2)), (ml, .inl (cI, 4, .inl u.2.2.2.2.2.1)), (mk, .inl (cI, 20, .inl u.2.2.2.1)), (mv, .inl (cI, 20, .inl u.2.2.2.2.1))] t) (va_A [(mo, .inr (4, [.int kd, .ref mp, .ref mq, .int (nI n), .ref mr, .ref mw, .ref mt, .ref ml, .ref mk, .ref mv, .int 0, .int 0, .int 0])), (mp, .inl (cI, 64, .inl fo)), (mq, .inl (cI, 64, .inl fn)), (mr, .inl (cI, 576, .inl fR)), (mw, .inl (cZ, 64, .inl fW)), (mt, .inl (cI, 8, .inl fs)), (ml, .inl (cI, 4, .inl fl)), (mk, .inl (cI, 20, .inl fk)), (mv, .inl (cI, 20, .inl fv))] hz)) 0 0 (va_A [(mo, .inr (4, [.int kd, .ref mp, .ref mq, .int (nI n), .ref mr, .ref mw, .ref mt, .ref ml, .ref mk, .ref mv, .int 0, .int 0, .int 0])), (mp, .inl (cI, 64, .inl fo)), (mq, .inl (cI, 64, .inl fn)), (mr, .inl (cI, 576, .inl fR)), (mw, .inl (cZ, 64, .inl fW)), (mt, .inl (cI, 8, .inl fs)), (ml, .inl (cI, 4, .inl fl)), (mk, .inl (cI, 20, .inl fk)), (mv, .inl (cI, 20, .inl fv))] hz) := by
  refine Met.ofW (cc := b_Model_done) (maxL := 9) (ret := (some .int)) (by decide) rfl ?_
  intro p e s m args below meth c s₁ B hml hv
  obtain ⟨rfl, hsz, hP, hE, hD0⟩ := hv
  have hx := B.exec
  have hb := B.bytes
  have hr := B.returns
  have hts : ∀ w ∈ gW, w.before _ s = true := fun w h => atoms_spec (ws := w_Model_done) B.pre w (List.mem_cons_of_mem _ h)
  have hown : s.vm.findClass R_Model = some m.cls := findClass_of_methodNamed B.named
  have hlocks := B.notSynchronized
  subst hsz
  have hD := hD0.self (sz := s.heap.size)
  have hA : ∀ q : Nat, s.heap.size ≤ q → va_A [(mo, .inr (4, [.int kd, .ref mp, .ref mq, .int (nI n), .ref mr, .ref mw, .ref mt, .ref ml, .ref mk, .ref mv, .int 0, .int 0, .int 0])), (mp, .inl (cI, 64, .inl fo)), (mq, .inl (cI, 64, .inl fn)), (mr, .inl (cI, 576, .inl fR)), (mw, .inl (cZ, 64, .inl fW)), (mt, .inl (cI, 8, .inl fs)), (ml, .inl (cI, 4, .inl fl)), (mk, .inl (cI, 20, .inl fk)), (mv, .inl (cI, 20, .inl fv))] s.heap.size q := fun q h => Or.inr h
  generalize va_A [(mo, .inr (4, [.int kd, .ref mp, .ref mq, .int (nI n), .ref mr, .ref mw, .ref mt, .ref ml, .ref mk, .ref mv, .int 0, .int 0, .int 0])), (mp, .inl (cI, 64, .inl fo)), (mq, .inl (cI, 64, .inl fn)), (mr, .inl (cI, 576, .inl fR)), (mw, .inl (cZ, 64, .inl fW)), (mt, .inl (cI, 8, .inl fs)), (ml, .inl (cI, 4, .inl fl)), (mk, .inl (cI, 20, .inl fk)), (mv, .inl (cI, 20, .inl fv))] s.heap.size = A at hD hA ⊢
  have hS : va_S A s.heap s.heap [] := va_S.rf
  have hP : va_P D classes [(mo, .inr (4, [.int kd, .ref mp, .ref mq, .int (nI n), .ref mr, .ref mw, .ref mt, .ref ml, .ref mk, .ref mv, .int 0, .int 0, .int 0])), (mp, .inl (cI, 64, .inl fo)), (mq, .inl (cI, 64, .inl fn)), (mr, .inl (cI, 576, .inl fR)), (mw, .inl (cZ, 64, .inl fW)), (mt, .inl (cI, 8, .inl fs)), (ml, .inl (cI, 4, .inl fl)), (mk, .inl (cI, 20, .inl fk)), (mv, .inl (cI, 20, .inl fv))] s.heap := hP
  have hD : va_D A [(mo, .inr (4, [.int kd, .ref mp, .ref mq, .int (nI n), .ref mr, .ref mw, .ref mt, .ref ml, .ref mk, .ref mv, .int 0, .int 0, .int 0])), (mp, .inl (cI, 64, .inl fo)), (mq, .inl (cI, 64, .inl fn)), (mr, .inl (cI, 576, .inl fR)), (mw, .inl (cZ, 64, .inl fW)), (mt, .inl (cI, 8, .inl fs)), (ml, .inl (cI, 4, .inl fl)), (mk, .inl (cI, 20, .inl fk)), (mv, .inl (cI, 20, .inl fv))] := hD
  have hl := lv_entry ([.ref mo, .int x, .int y, .int z]) (n := 9) (Nat.le_of_ble_eq_true rfl)
  rw [lg_entry_eq]
  generalize (lg_sl ([.ref mo, .int x, .int y, .int z]) ++ List.replicate (9 - (lg_sl ([.ref mo, .int x, .int y, .int z])).length) Slot.unset).toArray = ls at hl ⊢
  have hl : lv_has ls 9 [(0, .ref mo), (1, .int x), (2, .int y), (3, .int z)] := hl
  refine lv_iconst (v := 0) hx hb d_Model_done_0 (by decide) ?_
  refine lv_istore hx hb d_Model_done_1 hl (by decide) rfl (fun ls hl => ?_)
  have hl : lv_has ls 9 [(4, .int 0), (0, .ref mo), (1, .int x), (2, .int y), (3, .int z)] := hl
  refine lv_iconst (v := 0) hx hb d_Model_done_3 (by decide) ?_
  refine lv_istore hx hb d_Model_done_4 hl (by decide) rfl (fun ls hl => ?_)
  have hl : lv_has ls 9 [(5, .int 0), (4, .int 0), (0, .ref mo), (1, .int x), (2, .int y), (3, .int z)] := hl
  refine lv_iconst (v := 0) hx hb d_Model_done_6 (by decide) ?_
  refine lv_istore hx hb d_Model_done_7 hl (by decide) rfl (fun ls hl => ?_)
  have hl : lv_has ls 9 [(6, .int 0), (5, .int 0), (4, .int 0), (0, .ref mo), (1, .int x), (2, .int y), (3, .int z)] := hl
  have key0 : ∀ (M : Nat) (q : Nat) (g : Nat → Int32) (H : Heap) (locs : List Loc) (ls : Array Slot), q + M = 4 → lv_has ls 9 [(6, .int (nI q)), (5, .int 0), (4, .int 0), (0, .ref mo), (1, .int x), (2, .int y), (3, .int z)] → va_P D classes [(mo, .inr (4, [.int kd, .ref mp, .ref mq, .int (nI n), .ref mr, .ref mw, .ref mt, .ref ml, .ref mk, .ref mv, .int 0, .int 0, .int 0])), (mp, .inl (cI, 64, .inl fo)), (mq, .inl (cI, 64, .inl fn)), (mr, .inl (cI, 576, .inl fR)), (mw, .inl (cZ, 64, .inl fW)), (mt, .inl (cI, 8, .inl fs)), (ml, .inl (cI, 4, .inl g)), (mk, .inl (cI, 20, .inl fk)), (mv, .inl (cI, 20, .inl fv))] H → va_D A [(mo, .inr (4, [.int kd, .ref mp, .ref mq, .int (nI n), .ref mr, .ref mw, .ref mt, .ref ml, .ref mk, .ref mv, .int 0, .int 0, .int 0])), (mp, .inl (cI, 64, .inl fo)), (mq, .inl (cI, 64, .inl fn)), (mr, .inl (cI, 576, .inl fR)), (mw, .inl (cZ, 64, .inl fW)), (mt, .inl (cI, 8, .inl fs)), (ml, .inl (cI, 4, .inl g)), (mk, .inl (cI, 20, .inl fk)), (mv, .inl (cI, 20, .inl fv))] → (∀ i, i < q → g i = 0) → va_S A s.heap H locs → W p l e (headSpec w_Model_done (rmk 1)).room s m ([.ref mo, .int x, .int y, .int z] : List Value).toArray below meth c H locs 0 0 (MQ below (va_Qi (fun (r : Int32) (u : Int32 × Int32 × Int32 × (Nat → Int32) × (Nat → Int32) × (Nat → Int32) × (Nat → Int32)) => ∃ (o1 hgt1 ap1 : Int32), m_loop kd fo fn 300 3 (0, 0, 0, fk, fv, fa, fun _ => 0, fs, 0, 0) = (o1, (u.1, u.2.1, u.2.2.1, u.2.2.2.1, u.2.2.2.2.1, fa, u.2.2.2.2.2.1, u.2.2.2.2.2.2, hgt1, ap1)) ∧ r = if o1 = 3 then 2 else o1) (fun u t => ME D A [(mo, .inr (4, [.int kd, .ref mp, .ref mq, .int (nI n), .ref mr, .ref mw, .ref mt, .ref ml, .ref mk, .ref mv, .int u.2.2.1, .int u.2.1, .int u.1])), (mp, .inl (cI, 64, .inl fo)), (mq, .inl (cI, 64, .inl fn)), (mr, .inl (cI, 576, .inl fR)), (mw, .inl (cZ, 64, .inl fW)), (mt, .inl (cI, 8, .inl u.2.2.2.2.2.2)), (ml, .inl (cI, 4, .inl u.2.2.2.2.2.1)), (mk, .inl (cI, 20, .inl u.2.2.2.1)), (mv, .inl (cI, 20, .inl u.2.2.2.2.1))] t) A) ([.ref mo, .int x, .int y, .int z] : List Value).toArray s 0 0 A) (F0 m 9 ls []) := by
    intro M
    induction M with
    | zero =>
      intro q g H locs ls hqM hl hP hD hg hS
      refine lv_iload hx hb d_Model_done_9 (lv_at hl 0 rfl) ?_
      refine lv_iconst (v := 4) hx hb d_Model_done_11 (by decide) ?_
      refine lv_icmp_ge (tgt := 29) hx hb d_Model_done_12 (by decide) (fun h1 => ?_) (fun h1 => ?_)
      · -- 4 ≤ (nI q)
        have hP := P_arrK (k := 6) (g := fun _ => 0) hP rfl (fun i hi => hg i (by omega))
        have hD := va_D.set (p := 6) (e := .inl (cI, 4, .inl (fun _ => 0))) hD rfl
        have hP : va_P D classes [(mo, .inr (4, [.int kd, .ref mp, .ref mq, .int (nI n), .ref mr, .ref mw, .ref mt, .ref ml, .ref mk, .ref mv, .int 0, .int 0, .int 0])), (mp, .inl (cI, 64, .inl fo)), (mq, .inl (cI, 64, .inl fn)), (mr, .inl (cI, 576, .inl fR)), (mw, .inl (cZ, 64, .inl fW)), (mt, .inl (cI, 8, .inl fs)), (ml, .inl (cI, 4, .inl (fun _ => 0))), (mk, .inl (cI, 20, .inl fk)), (mv, .inl (cI, 20, .inl fv))] H := hP
        have hD : va_D A [(mo, .inr (4, [.int kd, .ref mp, .ref mq, .int (nI n), .ref mr, .ref mw, .ref mt, .ref ml, .ref mk, .ref mv, .int 0, .int 0, .int 0])), (mp, .inl (cI, 64, .inl fo)), (mq, .inl (cI, 64, .inl fn)), (mr, .inl (cI, 576, .inl fR)), (mw, .inl (cZ, 64, .inl fW)), (mt, .inl (cI, 8, .inl fs)), (ml, .inl (cI, 4, .inl (fun _ => 0))), (mk, .inl (cI, 20, .inl fk)), (mv, .inl (cI, 20, .inl fv))] := hD
        obtain ⟨TT, hTT⟩ : ∃ TT, TT = m_loop kd fo fn 300 3 (0, 0, 0, fk, fv, fa, fun _ => 0, fs, 0, 0) := ⟨_, rfl⟩
        have key : ∀ (N : Nat) (j tp a pz : Nat) (fk1 fv1 fl1 fs1 : Nat → Int32) (H : Heap) (locs : List Loc) (ls : Array Slot), j + N = 300 → lv_has ls 9 [(5, .int (nI a)), (4, .int (nI tp)), (0, .ref mo), (1, .int x), (2, .int y), (3, .int z)] → va_P D classes [(mo, .inr (4, [.int kd, .ref mp, .ref mq, .int (nI n), .ref mr, .ref mw, .ref mt, .ref ml, .ref mk, .ref mv, .int (nI pz), .int (nI j), .int 0])), (mp, .inl (cI, 64, .inl fo)), (mq, .inl (cI, 64, .inl fn)), (mr, .inl (cI, 576, .inl fR)), (mw, .inl (cZ, 64, .inl fW)), (mt, .inl (cI, 8, .inl fs1)), (ml, .inl (cI, 4, .inl fl1)), (mk, .inl (cI, 20, .inl fk1)), (mv, .inl (cI, 20, .inl fv1))] H → va_D A [(mo, .inr (4, [.int kd, .ref mp, .ref mq, .int (nI n), .ref mr, .ref mw, .ref mt, .ref ml, .ref mk, .ref mv, .int (nI pz), .int (nI j), .int 0])), (mp, .inl (cI, 64, .inl fo)), (mq, .inl (cI, 64, .inl fn)), (mr, .inl (cI, 576, .inl fR)), (mw, .inl (cZ, 64, .inl fW)), (mt, .inl (cI, 8, .inl fs1)), (ml, .inl (cI, 4, .inl fl1)), (mk, .inl (cI, 20, .inl fk1)), (mv, .inl (cI, 20, .inl fv1))] → a < n → tp < 9 → Rch kd (acOf kd) n fo fn a tp → pz ≤ 20 → m_loop kd fo fn N 3 (0, nI j, nI pz, fk1, fv1, fa, fl1, fs1, nI tp, nI a) = TT → va_S A s.heap H locs → W p l e (headSpec w_Model_done (rmk 1)).room s m ([.ref mo, .int x, .int y, .int z] : List Value).toArray below meth c H locs 0 0 (MQ below (va_Qi (fun (r : Int32) (u : Int32 × Int32 × Int32 × (Nat → Int32) × (Nat → Int32) × (Nat → Int32) × (Nat → Int32)) => ∃ (o1 hgt1 ap1 : Int32), m_loop kd fo fn 300 3 (0, 0, 0, fk, fv, fa, fun _ => 0, fs, 0, 0) = (o1, (u.1, u.2.1, u.2.2.1, u.2.2.2.1, u.2.2.2.2.1, fa, u.2.2.2.2.2.1, u.2.2.2.2.2.2, hgt1, ap1)) ∧ r = if o1 = 3 then 2 else o1) (fun u t => ME D A [(mo, .inr (4, [.int kd, .ref mp, .ref mq, .int (nI n), .ref mr, .ref mw, .ref mt, .ref ml, .ref mk, .ref mv, .int u.2.2.1, .int u.2.1, .int u.1])), (mp, .inl (cI, 64, .inl fo)), (mq, .inl (cI, 64, .inl fn)), (mr, .inl (cI, 576, .inl fR)), (mw, .inl (cZ, 64, .inl fW)), (mt, .inl (cI, 8, .inl u.2.2.2.2.2.2)), (ml, .inl (cI, 4, .inl u.2.2.2.2.2.1)), (mk, .inl (cI, 20, .inl u.2.2.2.1)), (mv, .inl (cI, 20, .inl u.2.2.2.2.1))] t) A) ([.ref mo, .int x, .int y, .int z] : List Value).toArray s 0 0 A) (F0 m 29 ls []) := by
          intro N
          induction N with
          | zero =>
            intro j tp a pz fk1 fv1 fl1 fs1 H locs ls hjN hl hP hD ha ht9 hR hp20 hT hS
            refine lv_aload_n hx hb d_Model_done_29 rfl (lv_at hl 2 rfl) ?_
            refine va_get (D := D) (ci := 4) (v := .int (nI j)) (C := R_Model) (T := F_Model) (N := 13) hx hb hts in_Model hown hE.1 hP 0 rfl rfl 11 (by decide) (hts _ k_327) (fun _ h9 => h9) rfl d_Model_done_30 ?_
            refine lv_sipush (v := 300) hx hb d_Model_done_33 (by decide) ?_
            refine lv_icmp_ge (tgt := 471) hx hb d_Model_done_36 (by decide) (fun h2 => ?_) (fun h2 => ?_)
            · -- 300 ≤ (nI j)
              refine lv_iconst (v := 2) hx hb d_Model_done_471 (by decide) ?_
              refine W.iret hx hb hr (fun t ht hW => ⟨⟨2, (0, (nI j), (nI pz), fk1, fv1, fl1, fs1), rfl, ?_, ?_⟩, hS.F ht⟩) hS.2.2 d_Model_done_472
              · exact ⟨3, nI tp, nI a, by rw [← hTT, ← hT]; rfl, rfl⟩
              · exact ⟨by rw [ht]; exact hP.sub [0, 1, 2, 3, 4, 5, 6, 7, 8] rfl, hD.sub [0, 1, 2, 3, 4, 5, 6, 7, 8] (by decide) rfl⟩
            · -- ¬ 300 ≤ (nI j)
              exact absurd (show (300 : Int32) ≤ nI j from nI_le (a := 300) (by omega) (by omega)) h2
          | succ N ih =>
            intro j tp a pz fk1 fv1 fl1 fs1 H locs ls hjN hl hP hD ha ht9 hR hp20 hT hS
            refine lv_aload_n hx hb d_Model_done_29 rfl (lv_at hl 2 rfl) ?_
            refine va_get (D := D) (ci := 4) (v := .int (nI j)) (C := R_Model) (T := F_Model) (N := 13) hx hb hts in_Model hown hE.1 hP 0 rfl rfl 11 (by decide) (hts _ k_327) (fun _ h9 => h9) rfl d_Model_done_30 ?_
            refine lv_sipush (v := 300) hx hb d_Model_done_33 (by decide) ?_
            refine lv_icmp_ge (tgt := 471) hx hb d_Model_done_36 (by decide) (fun h3 => ?_) (fun h3 => ?_)
            · -- 300 ≤ (nI j)
              exact absurd (show nI 300 ≤ nI j from h3) (nI_ge (by omega) (by omega))
            · -- ¬ 300 ≤ (nI j)
              refine lv_aload_n hx hb d_Model_done_39 rfl (lv_at hl 2 rfl) ?_
              refine lv_dup hx hb d_Model_done_40 rfl ?_
              refine va_get (D := D) (ci := 4) (v := .int (nI j)) (C := R_Model) (T := F_Model) (N := 13) hx hb hts in_Model hown hE.1 hP 0 rfl rfl 11 (by decide) (hts _ k_327) (fun _ h9 => h9) rfl d_Model_done_41 ?_
              refine lv_iconst (v := 1) hx hb d_Model_done_44 (by decide) ?_
              refine lv_iadd hx hb d_Model_done_45 ?_
              refine lv_eqi (y := (nI (j + 1))) (nI_1 j) ?_
              refine va_put (D := D) (ci := 4) (v := .int (nI (j + 1))) (ty := .int) (C := R_Model) (T := F_Model) (N := 13) hx hb hts in_Model t_Model t_Model_ok n_Model hown hE.1 hP hD hS 0 rfl rfl 11 (by decide) (hts _ k_327) (fun _ h9 => h9) rfl (by decide +kernel) rfl rfl (Nat.le_of_ble_eq_true rfl) d_Model_done_46 (fun H locs hP hD hS => ?_)
              have hP : va_P D classes [(mo, .inr (4, [.int kd, .ref mp, .ref mq, .int (nI n), .ref mr, .ref mw, .ref mt, .ref ml, .ref mk, .ref mv, .int (nI pz), .int (nI (j + 1)), .int 0])), (mp, .inl (cI, 64, .inl fo)), (mq, .inl (cI, 64, .inl fn)), (mr, .inl (cI, 576, .inl fR)), (mw, .inl (cZ, 64, .inl fW)), (mt, .inl (cI, 8, .inl fs1)), (ml, .inl (cI, 4, .inl fl1)), (mk, .inl (cI, 20, .inl fk1)), (mv, .inl (cI, 20, .inl fv1))] H := hP
              have hD : va_D A [(mo, .inr (4, [.int kd, .ref mp, .ref mq, .int (nI n), .ref mr, .ref mw, .ref mt, .ref ml, .ref mk, .ref mv, .int (nI pz), .int (nI (j + 1)), .int 0])), (mp, .inl (cI, 64, .inl fo)), (mq, .inl (cI, 64, .inl fn)), (mr, .inl (cI, 576, .inl fR)), (mw, .inl (cZ, 64, .inl fW)), (mt, .inl (cI, 8, .inl fs1)), (ml, .inl (cI, 4, .inl fl1)), (mk, .inl (cI, 20, .inl fk1)), (mv, .inl (cI, 20, .inl fv1))] := hD
              refine lv_aload_n hx hb d_Model_done_49 rfl (lv_at hl 2 rfl) ?_
              refine va_get (D := D) (ci := 4) (v := .ref mp) (C := R_Model) (T := F_Model) (N := 13) hx hb hts in_Model hown hE.1 hP 0 rfl rfl 1 (by decide) (hts _ k_317) (fun _ h9 => h9) rfl d_Model_done_50 ?_
              refine lv_iload hx hb d_Model_done_53 (lv_at hl 0 rfl) ?_
              refine va_iald hx hb hE.1 hP 1 0 rfl rfl (vp_in_nI (by omega) (by decide)) d_Model_done_55 ?_
              refine lv_eqi (y := fo a) (congrArg fo (nI_clamp (show a < 2 ^ 31 by omega))) ?_
              refine lv_istore hx hb d_Model_done_56 hl (by decide) rfl (fun ls hl => ?_)
              have hl : lv_has ls 9 [(6, .int (fo a)), (5, .int (nI a)), (4, .int (nI tp)), (0, .ref mo), (1, .int x), (2, .int y), (3, .int z)] := hl
              refine lv_aload_n hx hb d_Model_done_58 rfl (lv_at hl 3 rfl) ?_
              refine va_get (D := D) (ci := 4) (v := .ref mq) (C := R_Model) (T := F_Model) (N := 13) hx hb hts in_Model hown hE.1 hP 0 rfl rfl 2 (by decide) (hts _ k_318) (fun _ h9 => h9) rfl d_Model_done_59 ?_
              refine lv_iload hx hb d_Model_done_62 (lv_at hl 1 rfl) ?_
              refine va_iald hx hb hE.1 hP 2 0 rfl rfl (vp_in_nI (by omega) (by decide)) d_Model_done_64 ?_
              refine lv_eqi (y := fn a) (congrArg fn (nI_clamp (show a < 2 ^ 31 by omega))) ?_
              refine lv_istore hx hb d_Model_done_65 hl (by decide) rfl (fun ls hl => ?_)
              have hl : lv_has ls 9 [(7, .int (fn a)), (6, .int (fo a)), (5, .int (nI a)), (4, .int (nI tp)), (0, .ref mo), (1, .int x), (2, .int y), (3, .int z)] := hl
              refine lv_iinc (v := ((nI a) + 1)) (k := 2) hx hb d_Model_done_67 hl rfl rfl (by decide) rfl (fun ls hl => ?_)
              have hl : lv_has ls 9 [(5, .int ((nI a) + 1)), (7, .int (fn a)), (6, .int (fo a)), (4, .int (nI tp)), (0, .ref mo), (1, .int x), (2, .int y), (3, .int z)] := hl
              have hc := hgood a tp ha ht9 hR
              obtain ⟨hwf, -, hxn, hjm⟩ := cb_facts hn ha ht9 hc
              have hq := cb_fit hn ha hc
              obtain ⟨o, ho, eo⟩ := isOf_o (wf_isOf hwf)
              rw [rd_in fo (by omega) (by omega)] at eo
              have er : rd fo 64 (nI a) = nI o := by rw [rd_in fo (by omega) (by omega)]; exact eo
              have en : rd fn 64 (nI a) = fn a := rd_in fn (by omega) (by omega)
              rw [eo] at hq
              refine lv_iload hx hb d_Model_done_70 (lv_at hl 2 rfl) ?_
              rcases (by omega : o = 0 ∨ o = 1 ∨ o = 2 ∨ o = 3 ∨ o = 4 ∨ o = 5 ∨ o = 6 ∨ o = 7 ∨ o = 8 ∨ o = 9 ∨ o = 10 ∨ o = 11 ∨ o = 12 ∨ o = 13 ∨ o = 14 ∨ o = 15 ∨ o = 16 ∨ o = 17 ∨ o = 18) with rfl | rfl | rfl | rfl | rfl | rfl | rfl | rfl | rfl | rfl | rfl | rfl | rfl | rfl | rfl | rfl | rfl | rfl | rfl
              · -- op 0
                refine lv_eqi (y := 0) eo ?_
                refine lv_tableIn (tgt := 164) (off := 92) hx hb d_Model_done_72 (by decide) (by decide) (by decide +kernel) (by decide) ?_
                have tup : tp < 8 := (by decide +kernel : ∀ t, t < 9 → ¬ 8 < nI t + o_grow (nI 0) → t < 8) _ ht9 hq.2
                have ha1 : a + 1 < n := hxn (by rw [eo]; decide)
                refine lv_aload_n hx hb d_Model_done_164 rfl (lv_at hl 4 rfl) ?_
                refine va_get (D := D) (ci := 4) (v := .ref mt) (C := R_Model) (T := F_Model) (N := 13) hx hb hts in_Model hown hE.1 hP 0 rfl rfl 6 (by decide) (hts _ k_322) (fun _ h9 => h9) rfl d_Model_done_165 ?_
                refine lv_iload hx hb d_Model_done_168 (lv_at hl 3 rfl) ?_
                refine lv_iinc (v := ((nI tp) + 1)) (k := 3) hx hb d_Model_done_170 hl rfl rfl (by decide) rfl (fun ls hl => ?_)
                have hl : lv_has ls 9 [(4, .int ((nI tp) + 1)), (5, .int ((nI a) + 1)), (7, .int (fn a)), (6, .int (fo a)), (0, .ref mo), (1, .int x), (2, .int y), (3, .int z)] := hl
                refine lv_iload hx hb d_Model_done_173 (lv_at hl 2 rfl) ?_
                refine va_iast hx hb hE.1 hP hD hS 5 0 rfl rfl (vp_in_nI (by omega) (by decide)) d_Model_done_175 (fun H locs hP hD hS => ?_)
                rw [nI_clamp (show tp < 2 ^ 31 by omega)] at hP hD
                have hP : va_P D classes [(mo, .inr (4, [.int kd, .ref mp, .ref mq, .int (nI n), .ref mr, .ref mw, .ref mt, .ref ml, .ref mk, .ref mv, .int (nI pz), .int (nI (j + 1)), .int 0])), (mp, .inl (cI, 64, .inl fo)), (mq, .inl (cI, 64, .inl fn)), (mr, .inl (cI, 576, .inl fR)), (mw, .inl (cZ, 64, .inl fW)), (mt, .inl (cI, 8, .inl (upd fs1 tp (fn a)))), (ml, .inl (cI, 4, .inl fl1)), (mk, .inl (cI, 20, .inl fk1)), (mv, .inl (cI, 20, .inl fv1))] H := hP
                have hD : va_D A [(mo, .inr (4, [.int kd, .ref mp, .ref mq, .int (nI n), .ref mr, .ref mw, .ref mt, .ref ml, .ref mk, .ref mv, .int (nI pz), .int (nI (j + 1)), .int 0])), (mp, .inl (cI, 64, .inl fo)), (mq, .inl (cI, 64, .inl fn)), (mr, .inl (cI, 576, .inl fR)), (mw, .inl (cZ, 64, .inl fW)), (mt, .inl (cI, 8, .inl (upd fs1 tp (fn a)))), (ml, .inl (cI, 4, .inl fl1)), (mk, .inl (cI, 20, .inl fk1)), (mv, .inl (cI, 20, .inl fv1))] := hD
                refine lv_goto (tgt := 468) hx hb d_Model_done_176 (by decide) ?_
                refine lv_goto (tgt := 29) hx hb d_Model_done_468 (by decide) ?_
                have hl := lv_sub (l' := [(5, .int ((nI a) + 1)), (4, .int ((nI tp) + 1)), (0, .ref mo), (1, .int x), (2, .int y), (3, .int z)]) hl [1, 0, 4, 5, 6, 7] rfl
                have hl : lv_has ls 9 [(5, .int (nI (a + 1))), (4, .int (nI (tp + 1))), (0, .ref mo), (1, .int x), (2, .int y), (3, .int z)] := by
                  rw [show nI a + 1 = nI (a + 1) from nI_1 a, show ((nI tp) + 1) = nI (tp + 1) from nI_1 tp] at hl; exact hl
                have hR2 : Rch kd (acOf kd) n fo fn (a + 1) (tp + 1) := Rch_s ha ht9 hR hc ⟨ha1, by omega, by rw [eo]; exact (nI_1 tp), Or.inl ⟨by rw [eo]; decide, rfl⟩⟩
                have h1 : m_one (rd fo 64 (nI a)) (rd fn 64 (nI a)) kd (0, nI j + 1, nI pz, fk1, fv1, fa, fl1, fs1, nI tp, nI a) = (3, (0, nI (j + 1), (nI pz), fk1, fv1, fa, fl1, (upd fs1 tp (fn a)), nI (tp + 1), nI (a + 1))) := by
                  rw [er, en, nI_1 j, ← nI_1 a]; exact one_0 tup
                exact ih (j + 1) (tp + 1) (a + 1) (pz) _ _ _ _ _ _ _ (by omega) hl hP hD ha1 (by omega) hR2 (by omega) ((m_loop_s (N := N) (S := (0, nI j, nI pz, fk1, fv1, fa, fl1, fs1, nI tp, nI a)) h1).symm.trans hT) hS
              · -- op 1
                refine lv_eqi (y := 1) eo ?_
                refine lv_tableIn (tgt := 179) (off := 107) hx hb d_Model_done_72 (by decide) (by decide) (by decide +kernel) (by decide) ?_
                have tup : tp < 8 := (by decide +kernel : ∀ t, t < 9 → ¬ 8 < nI t + o_grow (nI 1) → t < 8) _ ht9 hq.2
                obtain ⟨L, hL3, eL⟩ := acOf_3 kd
                obtain ⟨q, hqL, eq⟩ := wf_num hn ha hwf (L := L) (by rw [eo]; exact eL) (by omega)
                have ha1 : a + 1 < n := hxn (by rw [eo]; decide)
                refine lv_aload_n hx hb d_Model_done_179 rfl (lv_at hl 4 rfl) ?_
                refine va_get (D := D) (ci := 4) (v := .ref mt) (C := R_Model) (T := F_Model) (N := 13) hx hb hts in_Model hown hE.1 hP 0 rfl rfl 6 (by decide) (hts _ k_322) (fun _ h9 => h9) rfl d_Model_done_180 ?_
                refine lv_iload hx hb d_Model_done_183 (lv_at hl 3 rfl) ?_
                refine lv_iinc (v := ((nI tp) + 1)) (k := 3) hx hb d_Model_done_185 hl rfl rfl (by decide) rfl (fun ls hl => ?_)
                have hl : lv_has ls 9 [(4, .int ((nI tp) + 1)), (5, .int ((nI a) + 1)), (7, .int (fn a)), (6, .int (fo a)), (0, .ref mo), (1, .int x), (2, .int y), (3, .int z)] := hl
                refine lv_iload hx hb d_Model_done_188 (lv_at hl 2 rfl) ?_
                refine lv_if_ne (tgt := 197) hx hb d_Model_done_190 (by decide) (fun h4 => ?_) (fun h4 => ?_)
                · -- ¬ (fn a) = 0
                  refine lv_iload hx hb d_Model_done_197 (lv_at hl 2 rfl) ?_
                  refine lv_iconst (v := 1) hx hb d_Model_done_199 (by decide) ?_
                  refine lv_icmp_ne (tgt := 207) hx hb d_Model_done_200 (by decide) (fun h5 => ?_) (fun h5 => ?_)
                  · -- ¬ (fn a) = 1
                    refine lv_iload_n hx hb d_Model_done_207 rfl (lv_at hl 7 rfl) ?_
                    refine va_iast hx hb hE.1 hP hD hS 5 0 rfl rfl (vp_in_nI (by omega) (by decide)) d_Model_done_208 (fun H locs hP hD hS => ?_)
                    rw [nI_clamp (show tp < 2 ^ 31 by omega)] at hP hD
                    have hP : va_P D classes [(mo, .inr (4, [.int kd, .ref mp, .ref mq, .int (nI n), .ref mr, .ref mw, .ref mt, .ref ml, .ref mk, .ref mv, .int (nI pz), .int (nI (j + 1)), .int 0])), (mp, .inl (cI, 64, .inl fo)), (mq, .inl (cI, 64, .inl fn)), (mr, .inl (cI, 576, .inl fR)), (mw, .inl (cZ, 64, .inl fW)), (mt, .inl (cI, 8, .inl (upd fs1 tp z))), (ml, .inl (cI, 4, .inl fl1)), (mk, .inl (cI, 20, .inl fk1)), (mv, .inl (cI, 20, .inl fv1))] H := hP
                    have hD : va_D A [(mo, .inr (4, [.int kd, .ref mp, .ref mq, .int (nI n), .ref mr, .ref mw, .ref mt, .ref ml, .ref mk, .ref mv, .int (nI pz), .int (nI (j + 1)), .int 0])), (mp, .inl (cI, 64, .inl fo)), (mq, .inl (cI, 64, .inl fn)), (mr, .inl (cI, 576, .inl fR)), (mw, .inl (cZ, 64, .inl fW)), (mt, .inl (cI, 8, .inl (upd fs1 tp z))), (ml, .inl (cI, 4, .inl fl1)), (mk, .inl (cI, 20, .inl fk1)), (mv, .inl (cI, 20, .inl fv1))] := hD
                    refine lv_goto (tgt := 468) hx hb d_Model_done_209 (by decide) ?_
                    refine lv_goto (tgt := 29) hx hb d_Model_done_468 (by decide) ?_
                    have hl := lv_sub (l' := [(5, .int ((nI a) + 1)), (4, .int ((nI tp) + 1)), (0, .ref mo), (1, .int x), (2, .int y), (3, .int z)]) hl [1, 0, 4, 5, 6, 7] rfl
                    have hl : lv_has ls 9 [(5, .int (nI (a + 1))), (4, .int (nI (tp + 1))), (0, .ref mo), (1, .int x), (2, .int y), (3, .int z)] := by
                      rw [show nI a + 1 = nI (a + 1) from nI_1 a, show ((nI tp) + 1) = nI (tp + 1) from nI_1 tp] at hl; exact hl
                    have hR2 : Rch kd (acOf kd) n fo fn (a + 1) (tp + 1) := Rch_s ha ht9 hR hc ⟨ha1, by omega, by rw [eo]; exact (nI_1 tp), Or.inl ⟨by rw [eo]; decide, rfl⟩⟩
                    have hv : fa q = z := by rw [show q = 2 from by have q0 : ¬ q = 0 := (fun z => h4 (by rw [eq, z]; rfl)); have q1 : ¬ q = 1 := (fun z => h5 (by rw [eq, z]; rfl)); omega]; exact hfa.2.2
                    have h1 : m_one (rd fo 64 (nI a)) (rd fn 64 (nI a)) kd (0, nI j + 1, nI pz, fk1, fv1, fa, fl1, fs1, nI tp, nI a) = (3, (0, nI (j + 1), (nI pz), fk1, fv1, fa, fl1, (upd fs1 tp z), nI (tp + 1), nI (a + 1))) := by
                      rw [er, en, nI_1 j, eq, ← nI_1 a, ← hv]; exact one_1 tup (by omega)
                    exact ih (j + 1) (tp + 1) (a + 1) (pz) _ _ _ _ _ _ _ (by omega) hl hP hD ha1 (by omega) hR2 (by omega) ((m_loop_s (N := N) (S := (0, nI j, nI pz, fk1, fv1, fa, fl1, fs1, nI tp, nI a)) h1).symm.trans hT) hS
                  · -- (fn a) = 1
                    refine lv_iload_n hx hb d_Model_done_203 rfl (lv_at hl 6 rfl) ?_
                    refine lv_goto (tgt := 208) hx hb d_Model_done_204 (by decide) ?_
                    refine va_iast hx hb hE.1 hP hD hS 5 0 rfl rfl (vp_in_nI (by omega) (by decide)) d_Model_done_208 (fun H locs hP hD hS => ?_)
                    rw [nI_clamp (show tp < 2 ^ 31 by omega)] at hP hD
                    have hP : va_P D classes [(mo, .inr (4, [.int kd, .ref mp, .ref mq, .int (nI n), .ref mr, .ref mw, .ref mt, .ref ml, .ref mk, .ref mv, .int (nI pz), .int (nI (j + 1)), .int 0])), (mp, .inl (cI, 64, .inl fo)), (mq, .inl (cI, 64, .inl fn)), (mr, .inl (cI, 576, .inl fR)), (mw, .inl (cZ, 64, .inl fW)), (mt, .inl (cI, 8, .inl (upd fs1 tp y))), (ml, .inl (cI, 4, .inl fl1)), (mk, .inl (cI, 20, .inl fk1)), (mv, .inl (cI, 20, .inl fv1))] H := hP
                    have hD : va_D A [(mo, .inr (4, [.int kd, .ref mp, .ref mq, .int (nI n), .ref mr, .ref mw, .ref mt, .ref ml, .ref mk, .ref mv, .int (nI pz), .int (nI (j + 1)), .int 0])), (mp, .inl (cI, 64, .inl fo)), (mq, .inl (cI, 64, .inl fn)), (mr, .inl (cI, 576, .inl fR)), (mw, .inl (cZ, 64, .inl fW)), (mt, .inl (cI, 8, .inl (upd fs1 tp y))), (ml, .inl (cI, 4, .inl fl1)), (mk, .inl (cI, 20, .inl fk1)), (mv, .inl (cI, 20, .inl fv1))] := hD
                    refine lv_goto (tgt := 468) hx hb d_Model_done_209 (by decide) ?_
                    refine lv_goto (tgt := 29) hx hb d_Model_done_468 (by decide) ?_
                    have hl := lv_sub (l' := [(5, .int ((nI a) + 1)), (4, .int ((nI tp) + 1)), (0, .ref mo), (1, .int x), (2, .int y), (3, .int z)]) hl [1, 0, 4, 5, 6, 7] rfl
                    have hl : lv_has ls 9 [(5, .int (nI (a + 1))), (4, .int (nI (tp + 1))), (0, .ref mo), (1, .int x), (2, .int y), (3, .int z)] := by
                      rw [show nI a + 1 = nI (a + 1) from nI_1 a, show ((nI tp) + 1) = nI (tp + 1) from nI_1 tp] at hl; exact hl
                    have hR2 : Rch kd (acOf kd) n fo fn (a + 1) (tp + 1) := Rch_s ha ht9 hR hc ⟨ha1, by omega, by rw [eo]; exact (nI_1 tp), Or.inl ⟨by rw [eo]; decide, rfl⟩⟩
                    have hv : fa q = y := by rw [show q = 1 from (nI_eq (by omega) (by omega)).mp (show nI q = nI 1 from eq.symm.trans h5)]; exact hfa.2.1
                    have h1 : m_one (rd fo 64 (nI a)) (rd fn 64 (nI a)) kd (0, nI j + 1, nI pz, fk1, fv1, fa, fl1, fs1, nI tp, nI a) = (3, (0, nI (j + 1), (nI pz), fk1, fv1, fa, fl1, (upd fs1 tp y), nI (tp + 1), nI (a + 1))) := by
                      rw [er, en, nI_1 j, eq, ← nI_1 a, ← hv]; exact one_1 tup (by omega)
                    exact ih (j + 1) (tp + 1) (a + 1) (pz) _ _ _ _ _ _ _ (by omega) hl hP hD ha1 (by omega) hR2 (by omega) ((m_loop_s (N := N) (S := (0, nI j, nI pz, fk1, fv1, fa, fl1, fs1, nI tp, nI a)) h1).symm.trans hT) hS
                · -- (fn a) = 0
                  refine lv_iload_n hx hb d_Model_done_193 rfl (lv_at hl 5 rfl) ?_
                  refine lv_goto (tgt := 208) hx hb d_Model_done_194 (by decide) ?_
                  refine va_iast hx hb hE.1 hP hD hS 5 0 rfl rfl (vp_in_nI (by omega) (by decide)) d_Model_done_208 (fun H locs hP hD hS => ?_)
                  rw [nI_clamp (show tp < 2 ^ 31 by omega)] at hP hD
                  have hP : va_P D classes [(mo, .inr (4, [.int kd, .ref mp, .ref mq, .int (nI n), .ref mr, .ref mw, .ref mt, .ref ml, .ref mk, .ref mv, .int (nI pz), .int (nI (j + 1)), .int 0])), (mp, .inl (cI, 64, .inl fo)), (mq, .inl (cI, 64, .inl fn)), (mr, .inl (cI, 576, .inl fR)), (mw, .inl (cZ, 64, .inl fW)), (mt, .inl (cI, 8, .inl (upd fs1 tp x))), (ml, .inl (cI, 4, .inl fl1)), (mk, .inl (cI, 20, .inl fk1)), (mv, .inl (cI, 20, .inl fv1))] H := hP
                  have hD : va_D A [(mo, .inr (4, [.int kd, .ref mp, .ref mq, .int (nI n), .ref mr, .ref mw, .ref mt, .ref ml, .ref mk, .ref mv, .int (nI pz), .int (nI (j + 1)), .int 0])), (mp, .inl (cI, 64, .inl fo)), (mq, .inl (cI, 64, .inl fn)), (mr, .inl (cI, 576, .inl fR)), (mw, .inl (cZ, 64, .inl fW)), (mt, .inl (cI, 8, .inl (upd fs1 tp x))), (ml, .inl (cI, 4, .inl fl1)), (mk, .inl (cI, 20, .inl fk1)), (mv, .inl (cI, 20, .inl fv1))] := hD
                  refine lv_goto (tgt := 468) hx hb d_Model_done_209 (by decide) ?_
                  refine lv_goto (tgt := 29) hx hb d_Model_done_468 (by decide) ?_
                  have hl := lv_sub (l' := [(5, .int ((nI a) + 1)), (4, .int ((nI tp) + 1)), (0, .ref mo), (1, .int x), (2, .int y), (3, .int z)]) hl [1, 0, 4, 5, 6, 7] rfl
                  have hl : lv_has ls 9 [(5, .int (nI (a + 1))), (4, .int (nI (tp + 1))), (0, .ref mo), (1, .int x), (2, .int y), (3, .int z)] := by
                    rw [show nI a + 1 = nI (a + 1) from nI_1 a, show ((nI tp) + 1) = nI (tp + 1) from nI_1 tp] at hl; exact hl
                  have hR2 : Rch kd (acOf kd) n fo fn (a + 1) (tp + 1) := Rch_s ha ht9 hR hc ⟨ha1, by omega, by rw [eo]; exact (nI_1 tp), Or.inl ⟨by rw [eo]; decide, rfl⟩⟩
                  have hv : fa q = x := by rw [show q = 0 from (nI_eq (by omega) (by omega)).mp (show nI q = nI 0 from eq.symm.trans h4)]; exact hfa.1
                  have h1 : m_one (rd fo 64 (nI a)) (rd fn 64 (nI a)) kd (0, nI j + 1, nI pz, fk1, fv1, fa, fl1, fs1, nI tp, nI a) = (3, (0, nI (j + 1), (nI pz), fk1, fv1, fa, fl1, (upd fs1 tp x), nI (tp + 1), nI (a + 1))) := by
                    rw [er, en, nI_1 j, eq, ← nI_1 a, ← hv]; exact one_1 tup (by omega)
                  exact ih (j + 1) (tp + 1) (a + 1) (pz) _ _ _ _ _ _ _ (by omega) hl hP hD ha1 (by omega) hR2 (by omega) ((m_loop_s (N := N) (S := (0, nI j, nI pz, fk1, fv1, fa, fl1, fs1, nI tp, nI a)) h1).symm.trans hT) hS
              · -- op 2
                refine lv_eqi (y := 2) eo ?_
                refine lv_tableIn (tgt := 212) (off := 140) hx hb d_Model_done_72 (by decide) (by decide) (by decide +kernel) (by decide) ?_
                have tup : tp < 8 := (by decide +kernel : ∀ t, t < 9 → ¬ 8 < nI t + o_grow (nI 2) → t < 8) _ ht9 hq.2
                obtain ⟨q, hq4, eq⟩ := wf_num hn ha hwf (L := 4) (by rw [eo]; rfl) (by decide)
                have ha1 : a + 1 < n := hxn (by rw [eo]; decide)
                refine lv_aload_n hx hb d_Model_done_212 rfl (lv_at hl 4 rfl) ?_
                refine va_get (D := D) (ci := 4) (v := .ref mt) (C := R_Model) (T := F_Model) (N := 13) hx hb hts in_Model hown hE.1 hP 0 rfl rfl 6 (by decide) (hts _ k_322) (fun _ h9 => h9) rfl d_Model_done_213 ?_
                refine lv_iload hx hb d_Model_done_216 (lv_at hl 3 rfl) ?_
                refine lv_iinc (v := ((nI tp) + 1)) (k := 3) hx hb d_Model_done_218 hl rfl rfl (by decide) rfl (fun ls hl => ?_)
                have hl : lv_has ls 9 [(4, .int ((nI tp) + 1)), (5, .int ((nI a) + 1)), (7, .int (fn a)), (6, .int (fo a)), (0, .ref mo), (1, .int x), (2, .int y), (3, .int z)] := hl
                refine lv_aload_n hx hb d_Model_done_221 rfl (lv_at hl 4 rfl) ?_
                refine va_get (D := D) (ci := 4) (v := .ref ml) (C := R_Model) (T := F_Model) (N := 13) hx hb hts in_Model hown hE.1 hP 0 rfl rfl 7 (by decide) (hts _ k_323) (fun _ h9 => h9) rfl d_Model_done_222 ?_
                refine lv_iload hx hb d_Model_done_225 (lv_at hl 2 rfl) ?_
                refine lv_eqi (y := (nI q)) (eq) ?_
                refine va_iald hx hb hE.1 hP 6 0 rfl rfl (vp_in_nI (by omega) (by decide)) d_Model_done_227 ?_
                refine lv_eqi (y := fl1 q) (congrArg fl1 (nI_clamp (show q < 2 ^ 31 by omega))) ?_
                refine va_iast hx hb hE.1 hP hD hS 5 0 rfl rfl (vp_in_nI (by omega) (by decide)) d_Model_done_228 (fun H locs hP hD hS => ?_)
                rw [nI_clamp (show tp < 2 ^ 31 by omega)] at hP hD
                have hP : va_P D classes [(mo, .inr (4, [.int kd, .ref mp, .ref mq, .int (nI n), .ref mr, .ref mw, .ref mt, .ref ml, .ref mk, .ref mv, .int (nI pz), .int (nI (j + 1)), .int 0])), (mp, .inl (cI, 64, .inl fo)), (mq, .inl (cI, 64, .inl fn)), (mr, .inl (cI, 576, .inl fR)), (mw, .inl (cZ, 64, .inl fW)), (mt, .inl (cI, 8, .inl (upd fs1 tp (fl1 q)))), (ml, .inl (cI, 4, .inl fl1)), (mk, .inl (cI, 20, .inl fk1)), (mv, .inl (cI, 20, .inl fv1))] H := hP
                have hD : va_D A [(mo, .inr (4, [.int kd, .ref mp, .ref mq, .int (nI n), .ref mr, .ref mw, .ref mt, .ref ml, .ref mk, .ref mv, .int (nI pz), .int (nI (j + 1)), .int 0])), (mp, .inl (cI, 64, .inl fo)), (mq, .inl (cI, 64, .inl fn)), (mr, .inl (cI, 576, .inl fR)), (mw, .inl (cZ, 64, .inl fW)), (mt, .inl (cI, 8, .inl (upd fs1 tp (fl1 q)))), (ml, .inl (cI, 4, .inl fl1)), (mk, .inl (cI, 20, .inl fk1)), (mv, .inl (cI, 20, .inl fv1))] := hD
                refine lv_goto (tgt := 468) hx hb d_Model_done_229 (by decide) ?_
                refine lv_goto (tgt := 29) hx hb d_Model_done_468 (by decide) ?_
                have hl := lv_sub (l' := [(5, .int ((nI a) + 1)), (4, .int ((nI tp) + 1)), (0, .ref mo), (1, .int x), (2, .int y), (3, .int z)]) hl [1, 0, 4, 5, 6, 7] rfl
                have hl : lv_has ls 9 [(5, .int (nI (a + 1))), (4, .int (nI (tp + 1))), (0, .ref mo), (1, .int x), (2, .int y), (3, .int z)] := by
                  rw [show nI a + 1 = nI (a + 1) from nI_1 a, show ((nI tp) + 1) = nI (tp + 1) from nI_1 tp] at hl; exact hl
                have hR2 : Rch kd (acOf kd) n fo fn (a + 1) (tp + 1) := Rch_s ha ht9 hR hc ⟨ha1, by omega, by rw [eo]; exact (nI_1 tp), Or.inl ⟨by rw [eo]; decide, rfl⟩⟩
                have h1 : m_one (rd fo 64 (nI a)) (rd fn 64 (nI a)) kd (0, nI j + 1, nI pz, fk1, fv1, fa, fl1, fs1, nI tp, nI a) = (3, (0, nI (j + 1), (nI pz), fk1, fv1, fa, fl1, (upd fs1 tp (fl1 q)), nI (tp + 1), nI (a + 1))) := by
                  rw [er, en, nI_1 j, eq, ← nI_1 a]; exact one_2 tup hq4
                exact ih (j + 1) (tp + 1) (a + 1) (pz) _ _ _ _ _ _ _ (by omega) hl hP hD ha1 (by omega) hR2 (by omega) ((m_loop_s (N := N) (S := (0, nI j, nI pz, fk1, fv1, fa, fl1, fs1, nI tp, nI a)) h1).symm.trans hT) hS
              · -- op 3
                refine lv_eqi (y := 3) eo ?_
                refine lv_tableIn (tgt := 232) (off := 160) hx hb d_Model_done_72 (by decide) (by decide) (by decide +kernel) (by decide) ?_
                have tlo : 1 ≤ tp := (by decide +kernel : ∀ t, t < 9 → ¬ nI t < rd tNeeds 19 (nI 3) → 1 ≤ t) tp ht9 hq.1
                obtain ⟨t0, rfl⟩ : ∃ t0, tp = t0 + 1 := ⟨tp - 1, by omega⟩
                obtain ⟨q, hq4, eq⟩ := wf_num hn ha hwf (L := 4) (by rw [eo]; rfl) (by decide)
                have ha1 : a + 1 < n := hxn (by rw [eo]; decide)
                refine lv_aload_n hx hb d_Model_done_232 rfl (lv_at hl 4 rfl) ?_
                refine va_get (D := D) (ci := 4) (v := .ref ml) (C := R_Model) (T := F_Model) (N := 13) hx hb hts in_Model hown hE.1 hP 0 rfl rfl 7 (by decide) (hts _ k_323) (fun _ h9 => h9) rfl d_Model_done_233 ?_
                refine lv_iload hx hb d_Model_done_236 (lv_at hl 1 rfl) ?_
                refine lv_eqi (y := (nI q)) (eq) ?_
                refine lv_aload_n hx hb d_Model_done_238 rfl (lv_at hl 4 rfl) ?_
                refine va_get (D := D) (ci := 4) (v := .ref mt) (C := R_Model) (T := F_Model) (N := 13) hx hb hts in_Model hown hE.1 hP 0 rfl rfl 6 (by decide) (hts _ k_322) (fun _ h9 => h9) rfl d_Model_done_239 ?_
                refine lv_iinc (v := ((nI (t0 + 1)) + (-1))) (k := 3) hx hb d_Model_done_242 hl rfl rfl (by decide) rfl (fun ls hl => ?_)
                have hl : lv_has ls 9 [(4, .int ((nI (t0 + 1)) + (-1))), (5, .int ((nI a) + 1)), (7, .int (fn a)), (6, .int (fo a)), (0, .ref mo), (1, .int x), (2, .int y), (3, .int z)] := hl
                refine lv_iload hx hb d_Model_done_245 (lv_at hl 0 rfl) ?_
                refine lv_eqi (y := (nI t0)) (pk_m1 t0) ?_
                refine va_iald hx hb hE.1 hP 5 0 rfl rfl (vp_in_nI (by omega) (by decide)) d_Model_done_247 ?_
                refine lv_eqi (y := fs1 t0) (congrArg fs1 (nI_clamp (show t0 < 2 ^ 31 by omega))) ?_
                refine va_iast hx hb hE.1 hP hD hS 6 0 rfl rfl (vp_in_nI (by omega) (by decide)) d_Model_done_248 (fun H locs hP hD hS => ?_)
                rw [nI_clamp (show q < 2 ^ 31 by omega)] at hP hD
                have hP : va_P D classes [(mo, .inr (4, [.int kd, .ref mp, .ref mq, .int (nI n), .ref mr, .ref mw, .ref mt, .ref ml, .ref mk, .ref mv, .int (nI pz), .int (nI (j + 1)), .int 0])), (mp, .inl (cI, 64, .inl fo)), (mq, .inl (cI, 64, .inl fn)), (mr, .inl (cI, 576, .inl fR)), (mw, .inl (cZ, 64, .inl fW)), (mt, .inl (cI, 8, .inl fs1)), (ml, .inl (cI, 4, .inl (upd fl1 q (fs1 t0)))), (mk, .inl (cI, 20, .inl fk1)), (mv, .inl (cI, 20, .inl fv1))] H := hP
                have hD : va_D A [(mo, .inr (4, [.int kd, .ref mp, .ref mq, .int (nI n), .ref mr, .ref mw, .ref mt, .ref ml, .ref mk, .ref mv, .int (nI pz), .int (nI (j + 1)), .int 0])), (mp, .inl (cI, 64, .inl fo)), (mq, .inl (cI, 64, .inl fn)), (mr, .inl (cI, 576, .inl fR)), (mw, .inl (cZ, 64, .inl fW)), (mt, .inl (cI, 8, .inl fs1)), (ml, .inl (cI, 4, .inl (upd fl1 q (fs1 t0)))), (mk, .inl (cI, 20, .inl fk1)), (mv, .inl (cI, 20, .inl fv1))] := hD
                refine lv_goto (tgt := 468) hx hb d_Model_done_249 (by decide) ?_
                refine lv_goto (tgt := 29) hx hb d_Model_done_468 (by decide) ?_
                have hl := lv_sub (l' := [(5, .int ((nI a) + 1)), (4, .int ((nI (t0 + 1)) + (-1))), (0, .ref mo), (1, .int x), (2, .int y), (3, .int z)]) hl [1, 0, 4, 5, 6, 7] rfl
                have hl : lv_has ls 9 [(5, .int (nI (a + 1))), (4, .int (nI (t0))), (0, .ref mo), (1, .int x), (2, .int y), (3, .int z)] := by
                  rw [show nI a + 1 = nI (a + 1) from nI_1 a, show ((nI (t0 + 1)) + (-1)) = nI (t0) from pk_m1 t0] at hl; exact hl
                have hR2 : Rch kd (acOf kd) n fo fn (a + 1) (t0) := Rch_s ha ht9 hR hc ⟨ha1, by omega, by rw [eo]; exact (pk_m1 t0), Or.inl ⟨by rw [eo]; decide, rfl⟩⟩
                have h1 : m_one (rd fo 64 (nI a)) (rd fn 64 (nI a)) kd (0, nI j + 1, nI pz, fk1, fv1, fa, fl1, fs1, nI (t0 + 1), nI a) = (3, (0, nI (j + 1), (nI pz), fk1, fv1, fa, (upd fl1 q (fs1 t0)), fs1, nI (t0), nI (a + 1))) := by
                  rw [er, en, nI_1 j, eq, ← nI_1 a]; exact one_3 (by omega) hq4
                exact ih (j + 1) (t0) (a + 1) (pz) _ _ _ _ _ _ _ (by omega) hl hP hD ha1 (by omega) hR2 (by omega) ((m_loop_s (N := N) (S := (0, nI j, nI pz, fk1, fv1, fa, fl1, fs1, nI (t0 + 1), nI a)) h1).symm.trans hT) hS
              · -- op 4
                refine lv_eqi (y := 4) eo ?_
                refine lv_tableIn (tgt := 252) (off := 180) hx hb d_Model_done_72 (by decide) (by decide) (by decide +kernel) (by decide) ?_
                have tlo : 1 ≤ tp := (by decide +kernel : ∀ t, t < 9 → ¬ nI t < rd tNeeds 19 (nI 4) → 1 ≤ t) tp ht9 hq.1
                obtain ⟨t0, rfl⟩ : ∃ t0, tp = t0 + 1 := ⟨tp - 1, by omega⟩
                have tup : (t0 + 1) < 8 := (by decide +kernel : ∀ t, t < 9 → ¬ 8 < nI t + o_grow (nI 4) → t < 8) _ ht9 hq.2
                have ha1 : a + 1 < n := hxn (by rw [eo]; decide)
                refine lv_aload_n hx hb d_Model_done_252 rfl (lv_at hl 4 rfl) ?_
                refine va_get (D := D) (ci := 4) (v := .ref mt) (C := R_Model) (T := F_Model) (N := 13) hx hb hts in_Model hown hE.1 hP 0 rfl rfl 6 (by decide) (hts _ k_322) (fun _ h9 => h9) rfl d_Model_done_253 ?_
                refine lv_iload hx hb d_Model_done_256 (lv_at hl 3 rfl) ?_
                refine lv_aload_n hx hb d_Model_done_258 rfl (lv_at hl 4 rfl) ?_
                refine va_get (D := D) (ci := 4) (v := .ref mt) (C := R_Model) (T := F_Model) (N := 13) hx hb hts in_Model hown hE.1 hP 0 rfl rfl 6 (by decide) (hts _ k_322) (fun _ h9 => h9) rfl d_Model_done_259 ?_
                refine lv_iload hx hb d_Model_done_262 (lv_at hl 3 rfl) ?_
                refine lv_iconst (v := 1) hx hb d_Model_done_264 (by decide) ?_
                refine lv_isub hx hb d_Model_done_265 ?_
                refine lv_eqi (y := (nI t0)) (nI_p1 t0) ?_
                refine va_iald hx hb hE.1 hP 5 0 rfl rfl (vp_in_nI (by omega) (by decide)) d_Model_done_266 ?_
                refine lv_eqi (y := fs1 t0) (congrArg fs1 (nI_clamp (show t0 < 2 ^ 31 by omega))) ?_
                refine va_iast hx hb hE.1 hP hD hS 5 0 rfl rfl (vp_in_nI (by omega) (by decide)) d_Model_done_267 (fun H locs hP hD hS => ?_)
                rw [nI_clamp (show (t0 + 1) < 2 ^ 31 by omega)] at hP hD
                have hP : va_P D classes [(mo, .inr (4, [.int kd, .ref mp, .ref mq, .int (nI n), .ref mr, .ref mw, .ref mt, .ref ml, .ref mk, .ref mv, .int (nI pz), .int (nI (j + 1)), .int 0])), (mp, .inl (cI, 64, .inl fo)), (mq, .inl (cI, 64, .inl fn)), (mr, .inl (cI, 576, .inl fR)), (mw, .inl (cZ, 64, .inl fW)), (mt, .inl (cI, 8, .inl (upd fs1 (t0 + 1) (fs1 t0)))), (ml, .inl (cI, 4, .inl fl1)), (mk, .inl (cI, 20, .inl fk1)), (mv, .inl (cI, 20, .inl fv1))] H := hP
                have hD : va_D A [(mo, .inr (4, [.int kd, .ref mp, .ref mq, .int (nI n), .ref mr, .ref mw, .ref mt, .ref ml, .ref mk, .ref mv, .int (nI pz), .int (nI (j + 1)), .int 0])), (mp, .inl (cI, 64, .inl fo)), (mq, .inl (cI, 64, .inl fn)), (mr, .inl (cI, 576, .inl fR)), (mw, .inl (cZ, 64, .inl fW)), (mt, .inl (cI, 8, .inl (upd fs1 (t0 + 1) (fs1 t0)))), (ml, .inl (cI, 4, .inl fl1)), (mk, .inl (cI, 20, .inl fk1)), (mv, .inl (cI, 20, .inl fv1))] := hD
                refine lv_iinc (v := ((nI (t0 + 1)) + 1)) (k := 3) hx hb d_Model_done_268 hl rfl rfl (by decide) rfl (fun ls hl => ?_)
                have hl : lv_has ls 9 [(4, .int ((nI (t0 + 1)) + 1)), (5, .int ((nI a) + 1)), (7, .int (fn a)), (6, .int (fo a)), (0, .ref mo), (1, .int x), (2, .int y), (3, .int z)] := hl
                refine lv_goto (tgt := 468) hx hb d_Model_done_271 (by decide) ?_
                refine lv_goto (tgt := 29) hx hb d_Model_done_468 (by decide) ?_
                have hl := lv_sub (l' := [(5, .int ((nI a) + 1)), (4, .int ((nI (t0 + 1)) + 1)), (0, .ref mo), (1, .int x), (2, .int y), (3, .int z)]) hl [1, 0, 4, 5, 6, 7] rfl
                have hl : lv_has ls 9 [(5, .int (nI (a + 1))), (4, .int (nI (t0 + 2))), (0, .ref mo), (1, .int x), (2, .int y), (3, .int z)] := by
                  rw [show nI a + 1 = nI (a + 1) from nI_1 a, show ((nI (t0 + 1)) + 1) = nI (t0 + 2) from nI_1 (t0 + 1)] at hl; exact hl
                have hR2 : Rch kd (acOf kd) n fo fn (a + 1) (t0 + 2) := Rch_s ha ht9 hR hc ⟨ha1, by omega, by rw [eo]; exact (nI_1 (t0 + 1)), Or.inl ⟨by rw [eo]; decide, rfl⟩⟩
                have h1 : m_one (rd fo 64 (nI a)) (rd fn 64 (nI a)) kd (0, nI j + 1, nI pz, fk1, fv1, fa, fl1, fs1, nI (t0 + 1), nI a) = (3, (0, nI (j + 1), (nI pz), fk1, fv1, fa, fl1, (upd fs1 (t0 + 1) (fs1 t0)), nI (t0 + 2), nI (a + 1))) := by
                  rw [er, en, nI_1 j, ← nI_1 a]; exact one_4 tup
                exact ih (j + 1) (t0 + 2) (a + 1) (pz) _ _ _ _ _ _ _ (by omega) hl hP hD ha1 (by omega) hR2 (by omega) ((m_loop_s (N := N) (S := (0, nI j, nI pz, fk1, fv1, fa, fl1, fs1, nI (t0 + 1), nI a)) h1).symm.trans hT) hS
              · -- op 5
                refine lv_eqi (y := 5) eo ?_
                refine lv_tableIn (tgt := 274) (off := 202) hx hb d_Model_done_72 (by decide) (by decide) (by decide +kernel) (by decide) ?_
                have tlo : 2 ≤ tp := (by decide +kernel : ∀ t, t < 9 → ¬ nI t < rd tNeeds 19 (nI 5) → 2 ≤ t) tp ht9 hq.1
                obtain ⟨t0, rfl⟩ : ∃ t0, tp = t0 + 2 := ⟨tp - 2, by omega⟩
                have ha1 : a + 1 < n := hxn (by rw [eo]; decide)
                refine lv_aload_n hx hb d_Model_done_274 rfl (lv_at hl 4 rfl) ?_
                refine va_get (D := D) (ci := 4) (v := .ref mt) (C := R_Model) (T := F_Model) (N := 13) hx hb hts in_Model hown hE.1 hP 0 rfl rfl 6 (by decide) (hts _ k_322) (fun _ h9 => h9) rfl d_Model_done_275 ?_
                refine lv_iload hx hb d_Model_done_278 (lv_at hl 3 rfl) ?_
                refine lv_iconst (v := 1) hx hb d_Model_done_280 (by decide) ?_
                refine lv_isub hx hb d_Model_done_281 ?_
                refine lv_eqi (y := (nI (t0 + 1))) (nI_p2 t0) ?_
                refine va_iald hx hb hE.1 hP 5 0 rfl rfl (vp_in_nI (by omega) (by decide)) d_Model_done_282 ?_
                refine lv_eqi (y := fs1 (t0 + 1)) (congrArg fs1 (nI_clamp (show (t0 + 1) < 2 ^ 31 by omega))) ?_
                refine lv_istore hx hb d_Model_done_283 hl (by decide) rfl (fun ls hl => ?_)
                have hl : lv_has ls 9 [(8, .int (fs1 (t0 + 1))), (5, .int ((nI a) + 1)), (7, .int (fn a)), (6, .int (fo a)), (4, .int (nI (t0 + 2))), (0, .ref mo), (1, .int x), (2, .int y), (3, .int z)] := hl
                refine lv_aload_n hx hb d_Model_done_285 rfl (lv_at hl 5 rfl) ?_
                refine va_get (D := D) (ci := 4) (v := .ref mt) (C := R_Model) (T := F_Model) (N := 13) hx hb hts in_Model hown hE.1 hP 0 rfl rfl 6 (by decide) (hts _ k_322) (fun _ h9 => h9) rfl d_Model_done_286 ?_
                refine lv_iload hx hb d_Model_done_289 (lv_at hl 4 rfl) ?_
                refine lv_iconst (v := 1) hx hb d_Model_done_291 (by decide) ?_
                refine lv_isub hx hb d_Model_done_292 ?_
                refine lv_eqi (y := (nI (t0 + 1))) (nI_p2 t0) ?_
                refine lv_aload_n hx hb d_Model_done_293 rfl (lv_at hl 5 rfl) ?_
                refine va_get (D := D) (ci := 4) (v := .ref mt) (C := R_Model) (T := F_Model) (N := 13) hx hb hts in_Model hown hE.1 hP 0 rfl rfl 6 (by decide) (hts _ k_322) (fun _ h9 => h9) rfl d_Model_done_294 ?_
                refine lv_iload hx hb d_Model_done_297 (lv_at hl 4 rfl) ?_
                refine lv_iconst (v := 2) hx hb d_Model_done_299 (by decide) ?_
                refine lv_isub hx hb d_Model_done_300 ?_
                refine lv_eqi (y := (nI t0)) (nI_s2 t0) ?_
                refine va_iald hx hb hE.1 hP 5 0 rfl rfl (vp_in_nI (by omega) (by decide)) d_Model_done_301 ?_
                refine lv_eqi (y := fs1 t0) (congrArg fs1 (nI_clamp (show t0 < 2 ^ 31 by omega))) ?_
                refine va_iast hx hb hE.1 hP hD hS 5 0 rfl rfl (vp_in_nI (by omega) (by decide)) d_Model_done_302 (fun H locs hP hD hS => ?_)
                rw [nI_clamp (show (t0 + 1) < 2 ^ 31 by omega)] at hP hD
                have hP : va_P D classes [(mo, .inr (4, [.int kd, .ref mp, .ref mq, .int (nI n), .ref mr, .ref mw, .ref mt, .ref ml, .ref mk, .ref mv, .int (nI pz), .int (nI (j + 1)), .int 0])), (mp, .inl (cI, 64, .inl fo)), (mq, .inl (cI, 64, .inl fn)), (mr, .inl (cI, 576, .inl fR)), (mw, .inl (cZ, 64, .inl fW)), (mt, .inl (cI, 8, .inl (upd fs1 (t0 + 1) (fs1 t0)))), (ml, .inl (cI, 4, .inl fl1)), (mk, .inl (cI, 20, .inl fk1)), (mv, .inl (cI, 20, .inl fv1))] H := hP
                have hD : va_D A [(mo, .inr (4, [.int kd, .ref mp, .ref mq, .int (nI n), .ref mr, .ref mw, .ref mt, .ref ml, .ref mk, .ref mv, .int (nI pz), .int (nI (j + 1)), .int 0])), (mp, .inl (cI, 64, .inl fo)), (mq, .inl (cI, 64, .inl fn)), (mr, .inl (cI, 576, .inl fR)), (mw, .inl (cZ, 64, .inl fW)), (mt, .inl (cI, 8, .inl (upd fs1 (t0 + 1) (fs1 t0)))), (ml, .inl (cI, 4, .inl fl1)), (mk, .inl (cI, 20, .inl fk1)), (mv, .inl (cI, 20, .inl fv1))] := hD
                refine lv_aload_n hx hb d_Model_done_303 rfl (lv_at hl 5 rfl) ?_
                refine va_get (D := D) (ci := 4) (v := .ref mt) (C := R_Model) (T := F_Model) (N := 13) hx hb hts in_Model hown hE.1 hP 0 rfl rfl 6 (by decide) (hts _ k_322) (fun _ h9 => h9) rfl d_Model_done_304 ?_
                refine lv_iload hx hb d_Model_done_307 (lv_at hl 4 rfl) ?_
                refine lv_iconst (v := 2) hx hb d_Model_done_309 (by decide) ?_
                refine lv_isub hx hb d_Model_done_310 ?_
                refine lv_eqi (y := (nI t0)) (nI_s2 t0) ?_
                refine lv_iload hx hb d_Model_done_311 (lv_at hl 0 rfl) ?_
                refine va_iast hx hb hE.1 hP hD hS 5 0 rfl rfl (vp_in_nI (by omega) (by decide)) d_Model_done_313 (fun H locs hP hD hS => ?_)
                rw [nI_clamp (show t0 < 2 ^ 31 by omega)] at hP hD
                have hP : va_P D classes [(mo, .inr (4, [.int kd, .ref mp, .ref mq, .int (nI n), .ref mr, .ref mw, .ref mt, .ref ml, .ref mk, .ref mv, .int (nI pz), .int (nI (j + 1)), .int 0])), (mp, .inl (cI, 64, .inl fo)), (mq, .inl (cI, 64, .inl fn)), (mr, .inl (cI, 576, .inl fR)), (mw, .inl (cZ, 64, .inl fW)), (mt, .inl (cI, 8, .inl (upd (upd fs1 (t0 + 1) (fs1 t0)) t0 (fs1 (t0 + 1))))), (ml, .inl (cI, 4, .inl fl1)), (mk, .inl (cI, 20, .inl fk1)), (mv, .inl (cI, 20, .inl fv1))] H := hP
                have hD : va_D A [(mo, .inr (4, [.int kd, .ref mp, .ref mq, .int (nI n), .ref mr, .ref mw, .ref mt, .ref ml, .ref mk, .ref mv, .int (nI pz), .int (nI (j + 1)), .int 0])), (mp, .inl (cI, 64, .inl fo)), (mq, .inl (cI, 64, .inl fn)), (mr, .inl (cI, 576, .inl fR)), (mw, .inl (cZ, 64, .inl fW)), (mt, .inl (cI, 8, .inl (upd (upd fs1 (t0 + 1) (fs1 t0)) t0 (fs1 (t0 + 1))))), (ml, .inl (cI, 4, .inl fl1)), (mk, .inl (cI, 20, .inl fk1)), (mv, .inl (cI, 20, .inl fv1))] := hD
                refine lv_goto (tgt := 468) hx hb d_Model_done_314 (by decide) ?_
                refine lv_goto (tgt := 29) hx hb d_Model_done_468 (by decide) ?_
                have hl := lv_sub (l' := [(5, .int ((nI a) + 1)), (4, .int (nI (t0 + 2))), (0, .ref mo), (1, .int x), (2, .int y), (3, .int z)]) hl [1, 4, 5, 6, 7, 8] rfl
                have hl : lv_has ls 9 [(5, .int (nI (a + 1))), (4, .int (nI (t0 + 2))), (0, .ref mo), (1, .int x), (2, .int y), (3, .int z)] := by
                  rw [show nI a + 1 = nI (a + 1) from nI_1 a] at hl; exact hl
                have hR2 : Rch kd (acOf kd) n fo fn (a + 1) (t0 + 2) := Rch_s ha ht9 hR hc ⟨ha1, by omega, by rw [eo]; exact (Int32.add_zero _), Or.inl ⟨by rw [eo]; decide, rfl⟩⟩
                have h1 : m_one (rd fo 64 (nI a)) (rd fn 64 (nI a)) kd (0, nI j + 1, nI pz, fk1, fv1, fa, fl1, fs1, nI (t0 + 2), nI a) = (3, (0, nI (j + 1), (nI pz), fk1, fv1, fa, fl1, (upd (upd fs1 (t0 + 1) (fs1 t0)) t0 (fs1 (t0 + 1))), nI (t0 + 2), nI (a + 1))) := by
                  rw [er, en, nI_1 j, ← nI_1 a]; exact one_5 (by omega)
                exact ih (j + 1) (t0 + 2) (a + 1) (pz) _ _ _ _ _ _ _ (by omega) hl hP hD ha1 (by omega) hR2 (by omega) ((m_loop_s (N := N) (S := (0, nI j, nI pz, fk1, fv1, fa, fl1, fs1, nI (t0 + 2), nI a)) h1).symm.trans hT) hS
              · -- op 6
                refine lv_eqi (y := 6) eo ?_
                refine lv_tableIn (tgt := 317) (off := 245) hx hb d_Model_done_72 (by decide) (by decide) (by decide +kernel) (by decide) ?_
                have tlo : 1 ≤ tp := (by decide +kernel : ∀ t, t < 9 → ¬ nI t < rd tNeeds 19 (nI 6) → 1 ≤ t) tp ht9 hq.1
                obtain ⟨t0, rfl⟩ : ∃ t0, tp = t0 + 1 := ⟨tp - 1, by omega⟩
                have ha1 : a + 1 < n := hxn (by rw [eo]; decide)
                refine lv_iinc (v := ((nI (t0 + 1)) + (-1))) (k := 3) hx hb d_Model_done_317 hl rfl rfl (by decide) rfl (fun ls hl => ?_)
                have hl : lv_has ls 9 [(4, .int ((nI (t0 + 1)) + (-1))), (5, .int ((nI a) + 1)), (7, .int (fn a)), (6, .int (fo a)), (0, .ref mo), (1, .int x), (2, .int y), (3, .int z)] := hl
                refine lv_goto (tgt := 468) hx hb d_Model_done_320 (by decide) ?_
                refine lv_goto (tgt := 29) hx hb d_Model_done_468 (by decide) ?_
                have hl := lv_sub (l' := [(5, .int ((nI a) + 1)), (4, .int ((nI (t0 + 1)) + (-1))), (0, .ref mo), (1, .int x), (2, .int y), (3, .int z)]) hl [1, 0, 4, 5, 6, 7] rfl
                have hl : lv_has ls 9 [(5, .int (nI (a + 1))), (4, .int (nI (t0))), (0, .ref mo), (1, .int x), (2, .int y), (3, .int z)] := by
                  rw [show nI a + 1 = nI (a + 1) from nI_1 a, show ((nI (t0 + 1)) + (-1)) = nI (t0) from pk_m1 t0] at hl; exact hl
                have hR2 : Rch kd (acOf kd) n fo fn (a + 1) (t0) := Rch_s ha ht9 hR hc ⟨ha1, by omega, by rw [eo]; exact (pk_m1 t0), Or.inl ⟨by rw [eo]; decide, rfl⟩⟩
                have h1 : m_one (rd fo 64 (nI a)) (rd fn 64 (nI a)) kd (0, nI j + 1, nI pz, fk1, fv1, fa, fl1, fs1, nI (t0 + 1), nI a) = (3, (0, nI (j + 1), (nI pz), fk1, fv1, fa, fl1, fs1, nI (t0), nI (a + 1))) := by
                  rw [er, en, nI_1 j, ← nI_1 a]; exact one_6
                exact ih (j + 1) (t0) (a + 1) (pz) _ _ _ _ _ _ _ (by omega) hl hP hD ha1 (by omega) hR2 (by omega) ((m_loop_s (N := N) (S := (0, nI j, nI pz, fk1, fv1, fa, fl1, fs1, nI (t0 + 1), nI a)) h1).symm.trans hT) hS
              · -- op 7
                refine lv_eqi (y := 7) eo ?_
                refine lv_tableIn (tgt := 435) (off := 363) hx hb d_Model_done_72 (by decide) (by decide) (by decide +kernel) (by decide) ?_
                have tlo : 2 ≤ tp := (by decide +kernel : ∀ t, t < 9 → ¬ nI t < rd tNeeds 19 (nI 7) → 2 ≤ t) tp ht9 hq.1
                obtain ⟨t0, rfl⟩ : ∃ t0, tp = t0 + 2 := ⟨tp - 2, by omega⟩
                have ha1 : a + 1 < n := hxn (by rw [eo]; decide)
                refine lv_iinc (v := ((nI (t0 + 2)) + (-1))) (k := 3) hx hb d_Model_done_435 hl rfl rfl (by decide) rfl (fun ls hl => ?_)
                have hl : lv_has ls 9 [(4, .int ((nI (t0 + 2)) + (-1))), (5, .int ((nI a) + 1)), (7, .int (fn a)), (6, .int (fo a)), (0, .ref mo), (1, .int x), (2, .int y), (3, .int z)] := hl
                refine lv_aload_n hx hb d_Model_done_438 rfl (lv_at hl 4 rfl) ?_
                refine va_get (D := D) (ci := 4) (v := .ref mt) (C := R_Model) (T := F_Model) (N := 13) hx hb hts in_Model hown hE.1 hP 0 rfl rfl 6 (by decide) (hts _ k_322) (fun _ h9 => h9) rfl d_Model_done_439 ?_
                refine lv_iload hx hb d_Model_done_442 (lv_at hl 0 rfl) ?_
                refine lv_eqi (y := (nI (t0 + 1))) (pk_m1 (t0 + 1)) ?_
                refine lv_iconst (v := 1) hx hb d_Model_done_444 (by decide) ?_
                refine lv_isub hx hb d_Model_done_445 ?_
                refine lv_eqi (y := (nI t0)) (nI_p1 t0) ?_
                refine lv_iload hx hb d_Model_done_446 (lv_at hl 3 rfl) ?_
                refine lv_aload_n hx hb d_Model_done_448 rfl (lv_at hl 4 rfl) ?_
                refine va_get (D := D) (ci := 4) (v := .ref mt) (C := R_Model) (T := F_Model) (N := 13) hx hb hts in_Model hown hE.1 hP 0 rfl rfl 6 (by decide) (hts _ k_322) (fun _ h9 => h9) rfl d_Model_done_449 ?_
                refine lv_iload hx hb d_Model_done_452 (lv_at hl 0 rfl) ?_
                refine lv_eqi (y := (nI (t0 + 1))) (pk_m1 (t0 + 1)) ?_
                refine lv_iconst (v := 1) hx hb d_Model_done_454 (by decide) ?_
                refine lv_isub hx hb d_Model_done_455 ?_
                refine lv_eqi (y := (nI t0)) (nI_p1 t0) ?_
                refine va_iald hx hb hE.1 hP 5 0 rfl rfl (vp_in_nI (by omega) (by decide)) d_Model_done_456 ?_
                refine lv_eqi (y := fs1 t0) (congrArg fs1 (nI_clamp (show t0 < 2 ^ 31 by omega))) ?_
                refine lv_aload_n hx hb d_Model_done_457 rfl (lv_at hl 4 rfl) ?_
                refine va_get (D := D) (ci := 4) (v := .ref mt) (C := R_Model) (T := F_Model) (N := 13) hx hb hts in_Model hown hE.1 hP 0 rfl rfl 6 (by decide) (hts _ k_322) (fun _ h9 => h9) rfl d_Model_done_458 ?_
                refine lv_iload hx hb d_Model_done_461 (lv_at hl 0 rfl) ?_
                refine lv_eqi (y := (nI (t0 + 1))) (pk_m1 (t0 + 1)) ?_
                refine va_iald hx hb hE.1 hP 5 0 rfl rfl (vp_in_nI (by omega) (by decide)) d_Model_done_463 ?_
                refine lv_eqi (y := fs1 (t0 + 1)) (congrArg fs1 (nI_clamp (show (t0 + 1) < 2 ^ 31 by omega))) ?_
                refine vp_callSi (va_Run.run (va_runS (As := [.int (fo a), .int (fs1 t0), .int (fs1 (t0 + 1))]) (rest := [.int (nI t0), .ref mt]) ⟨hx, hb, hml, hown, hts⟩ (c_Model_reckoned l (fo a) (fs1 t0) (fs1 (t0 + 1))) (cwS 3 hts (gd3 k_409 k_410 k_22 k_411) rfl rfl rfl (by decide +kernel) ⟨Nat.le_of_ble_eq_true rfl, Nat.le_of_ble_eq_true rfl⟩) ⟨fun _ _ _ _ q => q, fun _ _ _ => ⟨rfl, trivial⟩⟩ rfl rfl hl.1 rfl (lv_room (Nat.le_of_ble_eq_true rfl)) d_Model_done_464 ⟨Nat.zero_le _, Nat.zero_le _⟩)) (fun r hq => ?_)
                subst hq
                refine va_iast hx hb hE.1 hP hD hS 5 0 rfl rfl (vp_in_nI (by omega) (by decide)) d_Model_done_467 (fun H locs hP hD hS => ?_)
                rw [nI_clamp (show t0 < 2 ^ 31 by omega)] at hP hD
                have hP : va_P D classes [(mo, .inr (4, [.int kd, .ref mp, .ref mq, .int (nI n), .ref mr, .ref mw, .ref mt, .ref ml, .ref mk, .ref mv, .int (nI pz), .int (nI (j + 1)), .int 0])), (mp, .inl (cI, 64, .inl fo)), (mq, .inl (cI, 64, .inl fn)), (mr, .inl (cI, 576, .inl fR)), (mw, .inl (cZ, 64, .inl fW)), (mt, .inl (cI, 8, .inl (upd fs1 t0 (m_comb (fo a) (fs1 t0) (fs1 (t0 + 1)))))), (ml, .inl (cI, 4, .inl fl1)), (mk, .inl (cI, 20, .inl fk1)), (mv, .inl (cI, 20, .inl fv1))] H := hP
                have hD : va_D A [(mo, .inr (4, [.int kd, .ref mp, .ref mq, .int (nI n), .ref mr, .ref mw, .ref mt, .ref ml, .ref mk, .ref mv, .int (nI pz), .int (nI (j + 1)), .int 0])), (mp, .inl (cI, 64, .inl fo)), (mq, .inl (cI, 64, .inl fn)), (mr, .inl (cI, 576, .inl fR)), (mw, .inl (cZ, 64, .inl fW)), (mt, .inl (cI, 8, .inl (upd fs1 t0 (m_comb (fo a) (fs1 t0) (fs1 (t0 + 1)))))), (ml, .inl (cI, 4, .inl fl1)), (mk, .inl (cI, 20, .inl fk1)), (mv, .inl (cI, 20, .inl fv1))] := hD
                refine lv_goto (tgt := 29) hx hb d_Model_done_468 (by decide) ?_
                have hl := lv_sub (l' := [(5, .int ((nI a) + 1)), (4, .int ((nI (t0 + 2)) + (-1))), (0, .ref mo), (1, .int x), (2, .int y), (3, .int z)]) hl [1, 0, 4, 5, 6, 7] rfl
                have hl : lv_has ls 9 [(5, .int (nI (a + 1))), (4, .int (nI (t0 + 1))), (0, .ref mo), (1, .int x), (2, .int y), (3, .int z)] := by
                  rw [show nI a + 1 = nI (a + 1) from nI_1 a, show ((nI (t0 + 2)) + (-1)) = nI (t0 + 1) from pk_m1 (t0 + 1)] at hl; exact hl
                have hR2 : Rch kd (acOf kd) n fo fn (a + 1) (t0 + 1) := Rch_s ha ht9 hR hc ⟨ha1, by omega, by rw [eo]; exact (pk_m1 (t0 + 1)), Or.inl ⟨by rw [eo]; decide, rfl⟩⟩
                have h1 : m_one (rd fo 64 (nI a)) (rd fn 64 (nI a)) kd (0, nI j + 1, nI pz, fk1, fv1, fa, fl1, fs1, nI (t0 + 2), nI a) = (3, (0, nI (j + 1), (nI pz), fk1, fv1, fa, fl1, (upd fs1 t0 (m_comb (fo a) (fs1 t0) (fs1 (t0 + 1)))), nI (t0 + 1), nI (a + 1))) := by
                  rw [er, en, nI_1 j, ← nI_1 a, eo]; exact one_c (by omega) (by omega) (by omega)
                exact ih (j + 1) (t0 + 1) (a + 1) (pz) _ _ _ _ _ _ _ (by omega) hl hP hD ha1 (by omega) hR2 (by omega) ((m_loop_s (N := N) (S := (0, nI j, nI pz, fk1, fv1, fa, fl1, fs1, nI (t0 + 2), nI a)) h1).symm.trans hT) hS
              · -- op 8
                refine lv_eqi (y := 8) eo ?_
                refine lv_tableIn (tgt := 435) (off := 363) hx hb d_Model_done_72 (by decide) (by decide) (by decide +kernel) (by decide) ?_
                have tlo : 2 ≤ tp := (by decide +kernel : ∀ t, t < 9 → ¬ nI t < rd tNeeds 19 (nI 8) → 2 ≤ t) tp ht9 hq.1
                obtain ⟨t0, rfl⟩ : ∃ t0, tp = t0 + 2 := ⟨tp - 2, by omega⟩
                have ha1 : a + 1 < n := hxn (by rw [eo]; decide)
                refine lv_iinc (v := ((nI (t0 + 2)) + (-1))) (k := 3) hx hb d_Model_done_435 hl rfl rfl (by decide) rfl (fun ls hl => ?_)
                have hl : lv_has ls 9 [(4, .int ((nI (t0 + 2)) + (-1))), (5, .int ((nI a) + 1)), (7, .int (fn a)), (6, .int (fo a)), (0, .ref mo), (1, .int x), (2, .int y), (3, .int z)] := hl
                refine lv_aload_n hx hb d_Model_done_438 rfl (lv_at hl 4 rfl) ?_
                refine va_get (D := D) (ci := 4) (v := .ref mt) (C := R_Model) (T := F_Model) (N := 13) hx hb hts in_Model hown hE.1 hP 0 rfl rfl 6 (by decide) (hts _ k_322) (fun _ h9 => h9) rfl d_Model_done_439 ?_
                refine lv_iload hx hb d_Model_done_442 (lv_at hl 0 rfl) ?_
                refine lv_eqi (y := (nI (t0 + 1))) (pk_m1 (t0 + 1)) ?_
                refine lv_iconst (v := 1) hx hb d_Model_done_444 (by decide) ?_
                refine lv_isub hx hb d_Model_done_445 ?_
                refine lv_eqi (y := (nI t0)) (nI_p1 t0) ?_
                refine lv_iload hx hb d_Model_done_446 (lv_at hl 3 rfl) ?_
                refine lv_aload_n hx hb d_Model_done_448 rfl (lv_at hl 4 rfl) ?_
                refine va_get (D := D) (ci := 4) (v := .ref mt) (C := R_Model) (T := F_Model) (N := 13) hx hb hts in_Model hown hE.1 hP 0 rfl rfl 6 (by decide) (hts _ k_322) (fun _ h9 => h9) rfl d_Model_done_449 ?_
                refine lv_iload hx hb d_Model_done_452 (lv_at hl 0 rfl) ?_
                refine lv_eqi (y := (nI (t0 + 1))) (pk_m1 (t0 + 1)) ?_
                refine lv_iconst (v := 1) hx hb d_Model_done_454 (by decide) ?_
                refine lv_isub hx hb d_Model_done_455 ?_
                refine lv_eqi (y := (nI t0)) (nI_p1 t0) ?_
                refine va_iald hx hb hE.1 hP 5 0 rfl rfl (vp_in_nI (by omega) (by decide)) d_Model_done_456 ?_
                refine lv_eqi (y := fs1 t0) (congrArg fs1 (nI_clamp (show t0 < 2 ^ 31 by omega))) ?_
                refine lv_aload_n hx hb d_Model_done_457 rfl (lv_at hl 4 rfl) ?_
                refine va_get (D := D) (ci := 4) (v := .ref mt) (C := R_Model) (T := F_Model) (N := 13) hx hb hts in_Model hown hE.1 hP 0 rfl rfl 6 (by decide) (hts _ k_322) (fun _ h9 => h9) rfl d_Model_done_458 ?_
                refine lv_iload hx hb d_Model_done_461 (lv_at hl 0 rfl) ?_
                refine lv_eqi (y := (nI (t0 + 1))) (pk_m1 (t0 + 1)) ?_
                refine va_iald hx hb hE.1 hP 5 0 rfl rfl (vp_in_nI (by omega) (by decide)) d_Model_done_463 ?_
                refine lv_eqi (y := fs1 (t0 + 1)) (congrArg fs1 (nI_clamp (show (t0 + 1) < 2 ^ 31 by omega))) ?_
                refine vp_callSi (va_Run.run (va_runS (As := [.int (fo a), .int (fs1 t0), .int (fs1 (t0 + 1))]) (rest := [.int (nI t0), .ref mt]) ⟨hx, hb, hml, hown, hts⟩ (c_Model_reckoned l (fo a) (fs1 t0) (fs1 (t0 + 1))) (cwS 3 hts (gd3 k_409 k_410 k_22 k_411) rfl rfl rfl (by decide +kernel) ⟨Nat.le_of_ble_eq_true rfl, Nat.le_of_ble_eq_true rfl⟩) ⟨fun _ _ _ _ q => q, fun _ _ _ => ⟨rfl, trivial⟩⟩ rfl rfl hl.1 rfl (lv_room (Nat.le_of_ble_eq_true rfl)) d_Model_done_464 ⟨Nat.zero_le _, Nat.zero_le _⟩)) (fun r hq => ?_)
                subst hq
                refine va_iast hx hb hE.1 hP hD hS 5 0 rfl rfl (vp_in_nI (by omega) (by decide)) d_Model_done_467 (fun H locs hP hD hS => ?_)
                rw [nI_clamp (show t0 < 2 ^ 31 by omega)] at hP hD
                have hP : va_P D classes [(mo, .inr (4, [.int kd, .ref mp, .ref mq, .int (nI n), .ref mr, .ref mw, .ref mt, .ref ml, .ref mk, .ref mv, .int (nI pz), .int (nI (j + 1)), .int 0])), (mp, .inl (cI, 64, .inl fo)), (mq, .inl (cI, 64, .inl fn)), (mr, .inl (cI, 576, .inl fR)), (mw, .inl (cZ, 64, .inl fW)), (mt, .inl (cI, 8, .inl (upd fs1 t0 (m_comb (fo a) (fs1 t0) (fs1 (t0 + 1)))))), (ml, .inl (cI, 4, .inl fl1)), (mk, .inl (cI, 20, .inl fk1)), (mv, .inl (cI, 20, .inl fv1))] H := hP
                have hD : va_D A [(mo, .inr (4, [.int kd, .ref mp, .ref mq, .int (nI n), .ref mr, .ref mw, .ref mt, .ref ml, .ref mk, .ref mv, .int (nI pz), .int (nI (j + 1)), .int 0])), (mp, .inl (cI, 64, .inl fo)), (mq, .inl (cI, 64, .inl fn)), (mr, .inl (cI, 576, .inl fR)), (mw, .inl (cZ, 64, .inl fW)), (mt, .inl (cI, 8, .inl (upd fs1 t0 (m_comb (fo a) (fs1 t0) (fs1 (t0 + 1)))))), (ml, .inl (cI, 4, .inl fl1)), (mk, .inl (cI, 20, .inl fk1)), (mv, .inl (cI, 20, .inl fv1))] := hD
                refine lv_goto (tgt := 29) hx hb d_Model_done_468 (by decide) ?_
                have hl := lv_sub (l' := [(5, .int ((nI a) + 1)), (4, .int ((nI (t0 + 2)) + (-1))), (0, .ref mo), (1, .int x), (2, .int y), (3, .int z)]) hl [1, 0, 4, 5, 6, 7] rfl
                have hl : lv_has ls 9 [(5, .int (nI (a + 1))), (4, .int (nI (t0 + 1))), (0, .ref mo), (1, .int x), (2, .int y), (3, .int z)] := by
                  rw [show nI a + 1 = nI (a + 1) from nI_1 a, show ((nI (t0 + 2)) + (-1)) = nI (t0 + 1) from pk_m1 (t0 + 1)] at hl; exact hl
                have hR2 : Rch kd (acOf kd) n fo fn (a + 1) (t0 + 1) := Rch_s ha ht9 hR hc ⟨ha1, by omega, by rw [eo]; exact (pk_m1 (t0 + 1)), Or.inl ⟨by rw [eo]; decide, rfl⟩⟩
                have h1 : m_one (rd fo 64 (nI a)) (rd fn 64 (nI a)) kd (0, nI j + 1, nI pz, fk1, fv1, fa, fl1, fs1, nI (t0 + 2), nI a) = (3, (0, nI (j + 1), (nI pz), fk1, fv1, fa, fl1, (upd fs1 t0 (m_comb (fo a) (fs1 t0) (fs1 (t0 + 1)))), nI (t0 + 1), nI (a + 1))) := by
                  rw [er, en, nI_1 j, ← nI_1 a, eo]; exact one_c (by omega) (by omega) (by omega)
                exact ih (j + 1) (t0 + 1) (a + 1) (pz) _ _ _ _ _ _ _ (by omega) hl hP hD ha1 (by omega) hR2 (by omega) ((m_loop_s (N := N) (S := (0, nI j, nI pz, fk1, fv1, fa, fl1, fs1, nI (t0 + 2), nI a)) h1).symm.trans hT) hS
              · -- op 9
                refine lv_eqi (y := 9) eo ?_
                refine lv_tableIn (tgt := 435) (off := 363) hx hb d_Model_done_72 (by decide) (by decide) (by decide +kernel) (by decide) ?_
                have tlo : 2 ≤ tp := (by decide +kernel : ∀ t, t < 9 → ¬ nI t < rd tNeeds 19 (nI 9) → 2 ≤ t) tp ht9 hq.1
                obtain ⟨t0, rfl⟩ : ∃ t0, tp = t0 + 2 := ⟨tp - 2, by omega⟩
                have ha1 : a + 1 < n := hxn (by rw [eo]; decide)
                refine lv_iinc (v := ((nI (t0 + 2)) + (-1))) (k := 3) hx hb d_Model_done_435 hl rfl rfl (by decide) rfl (fun ls hl => ?_)
                have hl : lv_has ls 9 [(4, .int ((nI (t0 + 2)) + (-1))), (5, .int ((nI a) + 1)), (7, .int (fn a)), (6, .int (fo a)), (0, .ref mo), (1, .int x), (2, .int y), (3, .int z)] := hl
                refine lv_aload_n hx hb d_Model_done_438 rfl (lv_at hl 4 rfl) ?_
                refine va_get (D := D) (ci := 4) (v := .ref mt) (C := R_Model) (T := F_Model) (N := 13) hx hb hts in_Model hown hE.1 hP 0 rfl rfl 6 (by decide) (hts _ k_322) (fun _ h9 => h9) rfl d_Model_done_439 ?_
                refine lv_iload hx hb d_Model_done_442 (lv_at hl 0 rfl) ?_
                refine lv_eqi (y := (nI (t0 + 1))) (pk_m1 (t0 + 1)) ?_
                refine lv_iconst (v := 1) hx hb d_Model_done_444 (by decide) ?_
                refine lv_isub hx hb d_Model_done_445 ?_
                refine lv_eqi (y := (nI t0)) (nI_p1 t0) ?_
                refine lv_iload hx hb d_Model_done_446 (lv_at hl 3 rfl) ?_
                refine lv_aload_n hx hb d_Model_done_448 rfl (lv_at hl 4 rfl) ?_
                refine va_get (D := D) (ci := 4) (v := .ref mt) (C := R_Model) (T := F_Model) (N := 13) hx hb hts in_Model hown hE.1 hP 0 rfl rfl 6 (by decide) (hts _ k_322) (fun _ h9 => h9) rfl d_Model_done_449 ?_
                refine lv_iload hx hb d_Model_done_452 (lv_at hl 0 rfl) ?_
                refine lv_eqi (y := (nI (t0 + 1))) (pk_m1 (t0 + 1)) ?_
                refine lv_iconst (v := 1) hx hb d_Model_done_454 (by decide) ?_
                refine lv_isub hx hb d_Model_done_455 ?_
                refine lv_eqi (y := (nI t0)) (nI_p1 t0) ?_
                refine va_iald hx hb hE.1 hP 5 0 rfl rfl (vp_in_nI (by omega) (by decide)) d_Model_done_456 ?_
                refine lv_eqi (y := fs1 t0) (congrArg fs1 (nI_clamp (show t0 < 2 ^ 31 by omega))) ?_
                refine lv_aload_n hx hb d_Model_done_457 rfl (lv_at hl 4 rfl) ?_
                refine va_get (D := D) (ci := 4) (v := .ref mt) (C := R_Model) (T := F_Model) (N := 13) hx hb hts in_Model hown hE.1 hP 0 rfl rfl 6 (by decide) (hts _ k_322) (fun _ h9 => h9) rfl d_Model_done_458 ?_
                refine lv_iload hx hb d_Model_done_461 (lv_at hl 0 rfl) ?_
                refine lv_eqi (y := (nI (t0 + 1))) (pk_m1 (t0 + 1)) ?_
                refine va_iald hx hb hE.1 hP 5 0 rfl rfl (vp_in_nI (by omega) (by decide)) d_Model_done_463 ?_
                refine lv_eqi (y := fs1 (t0 + 1)) (congrArg fs1 (nI_clamp (show (t0 + 1) < 2 ^ 31 by omega))) ?_
                refine vp_callSi (va_Run.run (va_runS (As := [.int (fo a), .int (fs1 t0), .int (fs1 (t0 + 1))]) (rest := [.int (nI t0), .ref mt]) ⟨hx, hb, hml, hown, hts⟩ (c_Model_reckoned l (fo a) (fs1 t0) (fs1 (t0 + 1))) (cwS 3 hts (gd3 k_409 k_410 k_22 k_411) rfl rfl rfl (by decide +kernel) ⟨Nat.le_of_ble_eq_true rfl, Nat.le_of_ble_eq_true rfl⟩) ⟨fun _ _ _ _ q => q, fun _ _ _ => ⟨rfl, trivial⟩⟩ rfl rfl hl.1 rfl (lv_room (Nat.le_of_ble_eq_true rfl)) d_Model_done_464 ⟨Nat.zero_le _, Nat.zero_le _⟩)) (fun r hq => ?_)
                subst hq
                refine va_iast hx hb hE.1 hP hD hS 5 0 rfl rfl (vp_in_nI (by omega) (by decide)) d_Model_done_467 (fun H locs hP hD hS => ?_)
                rw [nI_clamp (show t0 < 2 ^ 31 by omega)] at hP hD
                have hP : va_P D classes [(mo, .inr (4, [.int kd, .ref mp, .ref mq, .int (nI n), .ref mr, .ref mw, .ref mt, .ref ml, .ref mk, .ref mv, .int (nI pz), .int (nI (j + 1)), .int 0])), (mp, .inl (cI, 64, .inl fo)), (mq, .inl (cI, 64, .inl fn)), (mr, .inl (cI, 576, .inl fR)), (mw, .inl (cZ, 64, .inl fW)), (mt, .inl (cI, 8, .inl (upd fs1 t0 (m_comb (fo a) (fs1 t0) (fs1 (t0 + 1)))))), (ml, .inl (cI, 4, .inl fl1)), (mk, .inl (cI, 20, .inl fk1)), (mv, .inl (cI, 20, .inl fv1))] H := hP
                have hD : va_D A [(mo, .inr (4, [.int kd, .ref mp, .ref mq, .int (nI n), .ref mr, .ref mw, .ref mt, .ref ml, .ref mk, .ref mv, .int (nI pz), .int (nI (j + 1)), .int 0])), (mp, .inl (cI, 64, .inl fo)), (mq, .inl (cI, 64, .inl fn)), (mr, .inl (cI, 576, .inl fR)), (mw, .inl (cZ, 64, .inl fW)), (mt, .inl (cI, 8, .inl (upd fs1 t0 (m_comb (fo a) (fs1 t0) (fs1 (t0 + 1)))))), (ml, .inl (cI, 4, .inl fl1)), (mk, .inl (cI, 20, .inl fk1)), (mv, .inl (cI, 20, .inl fv1))] := hD
                refine lv_goto (tgt := 29) hx hb d_Model_done_468 (by decide) ?_
                have hl := lv_sub (l' := [(5, .int ((nI a) + 1)), (4, .int ((nI (t0 + 2)) + (-1))), (0, .ref mo), (1, .int x), (2, .int y), (3, .int z)]) hl [1, 0, 4, 5, 6, 7] rfl
                have hl : lv_has ls 9 [(5, .int (nI (a + 1))), (4, .int (nI (t0 + 1))), (0, .ref mo), (1, .int x), (2, .int y), (3, .int z)] := by
                  rw [show nI a + 1 = nI (a + 1) from nI_1 a, show ((nI (t0 + 2)) + (-1)) = nI (t0 + 1) from pk_m1 (t0 + 1)] at hl; exact hl
                have hR2 : Rch kd (acOf kd) n fo fn (a + 1) (t0 + 1) := Rch_s ha ht9 hR hc ⟨ha1, by omega, by rw [eo]; exact (pk_m1 (t0 + 1)), Or.inl ⟨by rw [eo]; decide, rfl⟩⟩
                have h1 : m_one (rd fo 64 (nI a)) (rd fn 64 (nI a)) kd (0, nI j + 1, nI pz, fk1, fv1, fa, fl1, fs1, nI (t0 + 2), nI a) = (3, (0, nI (j + 1), (nI pz), fk1, fv1, fa, fl1, (upd fs1 t0 (m_comb (fo a) (fs1 t0) (fs1 (t0 + 1)))), nI (t0 + 1), nI (a + 1))) := by
                  rw [er, en, nI_1 j, ← nI_1 a, eo]; exact one_c (by omega) (by omega) (by omega)
                exact ih (j + 1) (t0 + 1) (a + 1) (pz) _ _ _ _ _ _ _ (by omega) hl hP hD ha1 (by omega) hR2 (by omega) ((m_loop_s (N := N) (S := (0, nI j, nI pz, fk1, fv1, fa, fl1, fs1, nI (t0 + 2), nI a)) h1).symm.trans hT) hS
              · -- op 10
                refine lv_eqi (y := 10) eo ?_
                refine lv_tableIn (tgt := 435) (off := 363) hx hb d_Model_done_72 (by decide) (by decide) (by decide +kernel) (by decide) ?_
                have tlo : 2 ≤ tp := (by decide +kernel : ∀ t, t < 9 → ¬ nI t < rd tNeeds 19 (nI 10) → 2 ≤ t) tp ht9 hq.1
                obtain ⟨t0, rfl⟩ : ∃ t0, tp = t0 + 2 := ⟨tp - 2, by omega⟩
                have ha1 : a + 1 < n := hxn (by rw [eo]; decide)
                refine lv_iinc (v := ((nI (t0 + 2)) + (-1))) (k := 3) hx hb d_Model_done_435 hl rfl rfl (by decide) rfl (fun ls hl => ?_)
                have hl : lv_has ls 9 [(4, .int ((nI (t0 + 2)) + (-1))), (5, .int ((nI a) + 1)), (7, .int (fn a)), (6, .int (fo a)), (0, .ref mo), (1, .int x), (2, .int y), (3, .int z)] := hl
                refine lv_aload_n hx hb d_Model_done_438 rfl (lv_at hl 4 rfl) ?_
                refine va_get (D := D) (ci := 4) (v := .ref mt) (C := R_Model) (T := F_Model) (N := 13) hx hb hts in_Model hown hE.1 hP 0 rfl rfl 6 (by decide) (hts _ k_322) (fun _ h9 => h9) rfl d_Model_done_439 ?_
                refine lv_iload hx hb d_Model_done_442 (lv_at hl 0 rfl) ?_
                refine lv_eqi (y := (nI (t0 + 1))) (pk_m1 (t0 + 1)) ?_
                refine lv_iconst (v := 1) hx hb d_Model_done_444 (by decide) ?_
                refine lv_isub hx hb d_Model_done_445 ?_
                refine lv_eqi (y := (nI t0)) (nI_p1 t0) ?_
                refine lv_iload hx hb d_Model_done_446 (lv_at hl 3 rfl) ?_
                refine lv_aload_n hx hb d_Model_done_448 rfl (lv_at hl 4 rfl) ?_
                refine va_get (D := D) (ci := 4) (v := .ref mt) (C := R_Model) (T := F_Model) (N := 13) hx hb hts in_Model hown hE.1 hP 0 rfl rfl 6 (by decide) (hts _ k_322) (fun _ h9 => h9) rfl d_Model_done_449 ?_
                refine lv_iload hx hb d_Model_done_452 (lv_at hl 0 rfl) ?_
                refine lv_eqi (y := (nI (t0 + 1))) (pk_m1 (t0 + 1)) ?_
                refine lv_iconst (v := 1) hx hb d_Model_done_454 (by decide) ?_
                refine lv_isub hx hb d_Model_done_455 ?_
                refine lv_eqi (y := (nI t0)) (nI_p1 t0) ?_
                refine va_iald hx hb hE.1 hP 5 0 rfl rfl (vp_in_nI (by omega) (by decide)) d_Model_done_456 ?_
                refine lv_eqi (y := fs1 t0) (congrArg fs1 (nI_clamp (show t0 < 2 ^ 31 by omega))) ?_
                refine lv_aload_n hx hb d_Model_done_457 rfl (lv_at hl 4 rfl) ?_
                refine va_get (D := D) (ci := 4) (v := .ref mt) (C := R_Model) (T := F_Model) (N := 13) hx hb hts in_Model hown hE.1 hP 0 rfl rfl 6 (by decide) (hts _ k_322) (fun _ h9 => h9) rfl d_Model_done_458 ?_
                refine lv_iload hx hb d_Model_done_461 (lv_at hl 0 rfl) ?_
                refine lv_eqi (y := (nI (t0 + 1))) (pk_m1 (t0 + 1)) ?_
                refine va_iald hx hb hE.1 hP 5 0 rfl rfl (vp_in_nI (by omega) (by decide)) d_Model_done_463 ?_
                refine lv_eqi (y := fs1 (t0 + 1)) (congrArg fs1 (nI_clamp (show (t0 + 1) < 2 ^ 31 by omega))) ?_
                refine vp_callSi (va_Run.run (va_runS (As := [.int (fo a), .int (fs1 t0), .int (fs1 (t0 + 1))]) (rest := [.int (nI t0), .ref mt]) ⟨hx, hb, hml, hown, hts⟩ (c_Model_reckoned l (fo a) (fs1 t0) (fs1 (t0 + 1))) (cwS 3 hts (gd3 k_409 k_410 k_22 k_411) rfl rfl rfl (by decide +kernel) ⟨Nat.le_of_ble_eq_true rfl, Nat.le_of_ble_eq_true rfl⟩) ⟨fun _ _ _ _ q => q, fun _ _ _ => ⟨rfl, trivial⟩⟩ rfl rfl hl.1 rfl (lv_room (Nat.le_of_ble_eq_true rfl)) d_Model_done_464 ⟨Nat.zero_le _, Nat.zero_le _⟩)) (fun r hq => ?_)
                subst hq
                refine va_iast hx hb hE.1 hP hD hS 5 0 rfl rfl (vp_in_nI (by omega) (by decide)) d_Model_done_467 (fun H locs hP hD hS => ?_)
                rw [nI_clamp (show t0 < 2 ^ 31 by omega)] at hP hD
                have hP : va_P D classes [(mo, .inr (4, [.int kd, .ref mp, .ref mq, .int (nI n), .ref mr, .ref mw, .ref mt, .ref ml, .ref mk, .ref mv, .int (nI pz), .int (nI (j + 1)), .int 0])), (mp, .inl (cI, 64, .inl fo)), (mq, .inl (cI, 64, .inl fn)), (mr, .inl (cI, 576, .inl fR)), (mw, .inl (cZ, 64, .inl fW)), (mt, .inl (cI, 8, .inl (upd fs1 t0 (m_comb (fo a) (fs1 t0) (fs1 (t0 + 1)))))), (ml, .inl (cI, 4, .inl fl1)), (mk, .inl (cI, 20, .inl fk1)), (mv, .inl (cI, 20, .inl fv1))] H := hP
                have hD : va_D A [(mo, .inr (4, [.int kd, .ref mp, .ref mq, .int (nI n), .ref mr, .ref mw, .ref mt, .ref ml, .ref mk, .ref mv, .int (nI pz), .int (nI (j + 1)), .int 0])), (mp, .inl (cI, 64, .inl fo)), (mq, .inl (cI, 64, .inl fn)), (mr, .inl (cI, 576, .inl fR)), (mw, .inl (cZ, 64, .inl fW)), (mt, .inl (cI, 8, .inl (upd fs1 t0 (m_comb (fo a) (fs1 t0) (fs1 (t0 + 1)))))), (ml, .inl (cI, 4, .inl fl1)), (mk, .inl (cI, 20, .inl fk1)), (mv, .inl (cI, 20, .inl fv1))] := hD
                refine lv_goto (tgt := 29) hx hb d_Model_done_468 (by decide) ?_
                have hl := lv_sub (l' := [(5, .int ((nI a) + 1)), (4, .int ((nI (t0 + 2)) + (-1))), (0, .ref mo), (1, .int x), (2, .int y), (3, .int z)]) hl [1, 0, 4, 5, 6, 7] rfl
                have hl : lv_has ls 9 [(5, .int (nI (a + 1))), (4, .int (nI (t0 + 1))), (0, .ref mo), (1, .int x), (2, .int y), (3, .int z)] := by
                  rw [show nI a + 1 = nI (a + 1) from nI_1 a, show ((nI (t0 + 2)) + (-1)) = nI (t0 + 1) from pk_m1 (t0 + 1)] at hl; exact hl
                have hR2 : Rch kd (acOf kd) n fo fn (a + 1) (t0 + 1) := Rch_s ha ht9 hR hc ⟨ha1, by omega, by rw [eo]; exact (pk_m1 (t0 + 1)), Or.inl ⟨by rw [eo]; decide, rfl⟩⟩
                have h1 : m_one (rd fo 64 (nI a)) (rd fn 64 (nI a)) kd (0, nI j + 1, nI pz, fk1, fv1, fa, fl1, fs1, nI (t0 + 2), nI a) = (3, (0, nI (j + 1), (nI pz), fk1, fv1, fa, fl1, (upd fs1 t0 (m_comb (fo a) (fs1 t0) (fs1 (t0 + 1)))), nI (t0 + 1), nI (a + 1))) := by
                  rw [er, en, nI_1 j, ← nI_1 a, eo]; exact one_c (by omega) (by omega) (by omega)
                exact ih (j + 1) (t0 + 1) (a + 1) (pz) _ _ _ _ _ _ _ (by omega) hl hP hD ha1 (by omega) hR2 (by omega) ((m_loop_s (N := N) (S := (0, nI j, nI pz, fk1, fv1, fa, fl1, fs1, nI (t0 + 2), nI a)) h1).symm.trans hT) hS
              · -- op 11
                refine lv_eqi (y := 11) eo ?_
                refine lv_tableIn (tgt := 435) (off := 363) hx hb d_Model_done_72 (by decide) (by decide) (by decide +kernel) (by decide) ?_
                have tlo : 2 ≤ tp := (by decide +kernel : ∀ t, t < 9 → ¬ nI t < rd tNeeds 19 (nI 11) → 2 ≤ t) tp ht9 hq.1
                obtain ⟨t0, rfl⟩ : ∃ t0, tp = t0 + 2 := ⟨tp - 2, by omega⟩
                have ha1 : a + 1 < n := hxn (by rw [eo]; decide)
                refine lv_iinc (v := ((nI (t0 + 2)) + (-1))) (k := 3) hx hb d_Model_done_435 hl rfl rfl (by decide) rfl (fun ls hl => ?_)
                have hl : lv_has ls 9 [(4, .int ((nI (t0 + 2)) + (-1))), (5, .int ((nI a) + 1)), (7, .int (fn a)), (6, .int (fo a)), (0, .ref mo), (1, .int x), (2, .int y), (3, .int z)] := hl
                refine lv_aload_n hx hb d_Model_done_438 rfl (lv_at hl 4 rfl) ?_
                refine va_get (D := D) (ci := 4) (v := .ref mt) (C := R_Model) (T := F_Model) (N := 13) hx hb hts in_Model hown hE.1 hP 0 rfl rfl 6 (by decide) (hts _ k_322) (fun _ h9 => h9) rfl d_Model_done_439 ?_
                refine lv_iload hx hb d_Model_done_442 (lv_at hl 0 rfl) ?_
                refine lv_eqi (y := (nI (t0 + 1))) (pk_m1 (t0 + 1)) ?_
                refine lv_iconst (v := 1) hx hb d_Model_done_444 (by decide) ?_
                refine lv_isub hx hb d_Model_done_445 ?_
                refine lv_eqi (y := (nI t0)) (nI_p1 t0) ?_
                refine lv_iload hx hb d_Model_done_446 (lv_at hl 3 rfl) ?_
                refine lv_aload_n hx hb d_Model_done_448 rfl (lv_at hl 4 rfl) ?_
                refine va_get (D := D) (ci := 4) (v := .ref mt) (C := R_Model) (T := F_Model) (N := 13) hx hb hts in_Model hown hE.1 hP 0 rfl rfl 6 (by decide) (hts _ k_322) (fun _ h9 => h9) rfl d_Model_done_449 ?_
                refine lv_iload hx hb d_Model_done_452 (lv_at hl 0 rfl) ?_
                refine lv_eqi (y := (nI (t0 + 1))) (pk_m1 (t0 + 1)) ?_
                refine lv_iconst (v := 1) hx hb d_Model_done_454 (by decide) ?_
                refine lv_isub hx hb d_Model_done_455 ?_
                refine lv_eqi (y := (nI t0)) (nI_p1 t0) ?_
                refine va_iald hx hb hE.1 hP 5 0 rfl rfl (vp_in_nI (by omega) (by decide)) d_Model_done_456 ?_
                refine lv_eqi (y := fs1 t0) (congrArg fs1 (nI_clamp (show t0 < 2 ^ 31 by omega))) ?_
                refine lv_aload_n hx hb d_Model_done_457 rfl (lv_at hl 4 rfl) ?_
                refine va_get (D := D) (ci := 4) (v := .ref mt) (C := R_Model) (T := F_Model) (N := 13) hx hb hts in_Model hown hE.1 hP 0 rfl rfl 6 (by decide) (hts _ k_322) (fun _ h9 => h9) rfl d_Model_done_458 ?_
                refine lv_iload hx hb d_Model_done_461 (lv_at hl 0 rfl) ?_
                refine lv_eqi (y := (nI (t0 + 1))) (pk_m1 (t0 + 1)) ?_
                refine va_iald hx hb hE.1 hP 5 0 rfl rfl (vp_in_nI (by omega) (by decide)) d_Model_done_463 ?_
                refine lv_eqi (y := fs1 (t0 + 1)) (congrArg fs1 (nI_clamp (show (t0 + 1) < 2 ^ 31 by omega))) ?_
                refine vp_callSi (va_Run.run (va_runS (As := [.int (fo a), .int (fs1 t0), .int (fs1 (t0 + 1))]) (rest := [.int (nI t0), .ref mt]) ⟨hx, hb, hml, hown, hts⟩ (c_Model_reckoned l (fo a) (fs1 t0) (fs1 (t0 + 1))) (cwS 3 hts (gd3 k_409 k_410 k_22 k_411) rfl rfl rfl (by decide +kernel) ⟨Nat.le_of_ble_eq_true rfl, Nat.le_of_ble_eq_true rfl⟩) ⟨fun _ _ _ _ q => q, fun _ _ _ => ⟨rfl, trivial⟩⟩ rfl rfl hl.1 rfl (lv_room (Nat.le_of_ble_eq_true rfl)) d_Model_done_464 ⟨Nat.zero_le _, Nat.zero_le _⟩)) (fun r hq => ?_)
                subst hq
                refine va_iast hx hb hE.1 hP hD hS 5 0 rfl rfl (vp_in_nI (by omega) (by decide)) d_Model_done_467 (fun H locs hP hD hS => ?_)
                rw [nI_clamp (show t0 < 2 ^ 31 by omega)] at hP hD
                have hP : va_P D classes [(mo, .inr (4, [.int kd, .ref mp, .ref mq, .int (nI n), .ref mr, .ref mw, .ref mt, .ref ml, .ref mk, .ref mv, .int (nI pz), .int (nI (j + 1)), .int 0])), (mp, .inl (cI, 64, .inl fo)), (mq, .inl (cI, 64, .inl fn)), (mr, .inl (cI, 576, .inl fR)), (mw, .inl (cZ, 64, .inl fW)), (mt, .inl (cI, 8, .inl (upd fs1 t0 (m_comb (fo a) (fs1 t0) (fs1 (t0 + 1)))))), (ml, .inl (cI, 4, .inl fl1)), (mk, .inl (cI, 20, .inl fk1)), (mv, .inl (cI, 20, .inl fv1))] H := hP
                have hD : va_D A [(mo, .inr (4, [.int kd, .ref mp, .ref mq, .int (nI n), .ref mr, .ref mw, .ref mt, .ref ml, .ref mk, .ref mv, .int (nI pz), .int (nI (j + 1)), .int 0])), (mp, .inl (cI, 64, .inl fo)), (mq, .inl (cI, 64, .inl fn)), (mr, .inl (cI, 576, .inl fR)), (mw, .inl (cZ, 64, .inl fW)), (mt, .inl (cI, 8, .inl (upd fs1 t0 (m_comb (fo a) (fs1 t0) (fs1 (t0 + 1)))))), (ml, .inl (cI, 4, .inl fl1)), (mk, .inl (cI, 20, .inl fk1)), (mv, .inl (cI, 20, .inl fv1))] := hD
                refine lv_goto (tgt := 29) hx hb d_Model_done_468 (by decide) ?_
                have hl := lv_sub (l' := [(5, .int ((nI a) + 1)), (4, .int ((nI (t0 + 2)) + (-1))), (0, .ref mo), (1, .int x), (2, .int y), (3, .int z)]) hl [1, 0, 4, 5, 6, 7] rfl
                have hl : lv_has ls 9 [(5, .int (nI (a + 1))), (4, .int (nI (t0 + 1))), (0, .ref mo), (1, .int x), (2, .int y), (3, .int z)] := by
                  rw [show nI a + 1 = nI (a + 1) from nI_1 a, show ((nI (t0 + 2)) + (-1)) = nI (t0 + 1) from pk_m1 (t0 + 1)] at hl; exact hl
                have hR2 : Rch kd (acOf kd) n fo fn (a + 1) (t0 + 1) := Rch_s ha ht9 hR hc ⟨ha1, by omega, by rw [eo]; exact (pk_m1 (t0 + 1)), Or.inl ⟨by rw [eo]; decide, rfl⟩⟩
                have h1 : m_one (rd fo 64 (nI a)) (rd fn 64 (nI a)) kd (0, nI j + 1, nI pz, fk1, fv1, fa, fl1, fs1, nI (t0 + 2), nI a) = (3, (0, nI (j + 1), (nI pz), fk1, fv1, fa, fl1, (upd fs1 t0 (m_comb (fo a) (fs1 t0) (fs1 (t0 + 1)))), nI (t0 + 1), nI (a + 1))) := by
                  rw [er, en, nI_1 j, ← nI_1 a, eo]; exact one_c (by omega) (by omega) (by omega)
                exact ih (j + 1) (t0 + 1) (a + 1) (pz) _ _ _ _ _ _ _ (by omega) hl hP hD ha1 (by omega) hR2 (by omega) ((m_loop_s (N := N) (S := (0, nI j, nI pz, fk1, fv1, fa, fl1, fs1, nI (t0 + 2), nI a)) h1).symm.trans hT) hS
              · -- op 12
                refine lv_eqi (y := 12) eo ?_
                refine lv_tableIn (tgt := 435) (off := 363) hx hb d_Model_done_72 (by decide) (by decide) (by decide +kernel) (by decide) ?_
                have tlo : 2 ≤ tp := (by decide +kernel : ∀ t, t < 9 → ¬ nI t < rd tNeeds 19 (nI 12) → 2 ≤ t) tp ht9 hq.1
                obtain ⟨t0, rfl⟩ : ∃ t0, tp = t0 + 2 := ⟨tp - 2, by omega⟩
                have ha1 : a + 1 < n := hxn (by rw [eo]; decide)
                refine lv_iinc (v := ((nI (t0 + 2)) + (-1))) (k := 3) hx hb d_Model_done_435 hl rfl rfl (by decide) rfl (fun ls hl => ?_)
                have hl : lv_has ls 9 [(4, .int ((nI (t0 + 2)) + (-1))), (5, .int ((nI a) + 1)), (7, .int (fn a)), (6, .int (fo a)), (0, .ref mo), (1, .int x), (2, .int y), (3, .int z)] := hl
                refine lv_aload_n hx hb d_Model_done_438 rfl (lv_at hl 4 rfl) ?_
                refine va_get (D := D) (ci := 4) (v := .ref mt) (C := R_Model) (T := F_Model) (N := 13) hx hb hts in_Model hown hE.1 hP 0 rfl rfl 6 (by decide) (hts _ k_322) (fun _ h9 => h9) rfl d_Model_done_439 ?_
                refine lv_iload hx hb d_Model_done_442 (lv_at hl 0 rfl) ?_
                refine lv_eqi (y := (nI (t0 + 1))) (pk_m1 (t0 + 1)) ?_
                refine lv_iconst (v := 1) hx hb d_Model_done_444 (by decide) ?_
                refine lv_isub hx hb d_Model_done_445 ?_
                refine lv_eqi (y := (nI t0)) (nI_p1 t0) ?_
                refine lv_iload hx hb d_Model_done_446 (lv_at hl 3 rfl) ?_
                refine lv_aload_n hx hb d_Model_done_448 rfl (lv_at hl 4 rfl) ?_
                refine va_get (D := D) (ci := 4) (v := .ref mt) (C := R_Model) (T := F_Model) (N := 13) hx hb hts in_Model hown hE.1 hP 0 rfl rfl 6 (by decide) (hts _ k_322) (fun _ h9 => h9) rfl d_Model_done_449 ?_
                refine lv_iload hx hb d_Model_done_452 (lv_at hl 0 rfl) ?_
                refine lv_eqi (y := (nI (t0 + 1))) (pk_m1 (t0 + 1)) ?_
                refine lv_iconst (v := 1) hx hb d_Model_done_454 (by decide) ?_
                refine lv_isub hx hb d_Model_done_455 ?_
                refine lv_eqi (y := (nI t0)) (nI_p1 t0) ?_
                refine va_iald hx hb hE.1 hP 5 0 rfl rfl (vp_in_nI (by omega) (by decide)) d_Model_done_456 ?_
                refine lv_eqi (y := fs1 t0) (congrArg fs1 (nI_clamp (show t0 < 2 ^ 31 by omega))) ?_
                refine lv_aload_n hx hb d_Model_done_457 rfl (lv_at hl 4 rfl) ?_
                refine va_get (D := D) (ci := 4) (v := .ref mt) (C := R_Model) (T := F_Model) (N := 13) hx hb hts in_Model hown hE.1 hP 0 rfl rfl 6 (by decide) (hts _ k_322) (fun _ h9 => h9) rfl d_Model_done_458 ?_
                refine lv_iload hx hb d_Model_done_461 (lv_at hl 0 rfl) ?_
                refine lv_eqi (y := (nI (t0 + 1))) (pk_m1 (t0 + 1)) ?_
                refine va_iald hx hb hE.1 hP 5 0 rfl rfl (vp_in_nI (by omega) (by decide)) d_Model_done_463 ?_
                refine lv_eqi (y := fs1 (t0 + 1)) (congrArg fs1 (nI_clamp (show (t0 + 1) < 2 ^ 31 by omega))) ?_
                refine vp_callSi (va_Run.run (va_runS (As := [.int (fo a), .int (fs1 t0), .int (fs1 (t0 + 1))]) (rest := [.int (nI t0), .ref mt]) ⟨hx, hb, hml, hown, hts⟩ (c_Model_reckoned l (fo a) (fs1 t0) (fs1 (t0 + 1))) (cwS 3 hts (gd3 k_409 k_410 k_22 k_411) rfl rfl rfl (by decide +kernel) ⟨Nat.le_of_ble_eq_true rfl, Nat.le_of_ble_eq_true rfl⟩) ⟨fun _ _ _ _ q => q, fun _ _ _ => ⟨rfl, trivial⟩⟩ rfl rfl hl.1 rfl (lv_room (Nat.le_of_ble_eq_true rfl)) d_Model_done_464 ⟨Nat.zero_le _, Nat.zero_le _⟩)) (fun r hq => ?_)
                subst hq
                refine va_iast hx hb hE.1 hP hD hS 5 0 rfl rfl (vp_in_nI (by omega) (by decide)) d_Model_done_467 (fun H locs hP hD hS => ?_)
                rw [nI_clamp (show t0 < 2 ^ 31 by omega)] at hP hD
                have hP : va_P D classes [(mo, .inr (4, [.int kd, .ref mp, .ref mq, .int (nI n), .ref mr, .ref mw, .ref mt, .ref ml, .ref mk, .ref mv, .int (nI pz), .int (nI (j + 1)), .int 0])), (mp, .inl (cI, 64, .inl fo)), (mq, .inl (cI, 64, .inl fn)), (mr, .inl (cI, 576, .inl fR)), (mw, .inl (cZ, 64, .inl fW)), (mt, .inl (cI, 8, .inl (upd fs1 t0 (m_comb (fo a) (fs1 t0) (fs1 (t0 + 1)))))), (ml, .inl (cI, 4, .inl fl1)), (mk, .inl (cI, 20, .inl fk1)), (mv, .inl (cI, 20, .inl fv1))] H := hP
                have hD : va_D A [(mo, .inr (4, [.int kd, .ref mp, .ref mq, .int (nI n), .ref mr, .ref mw, .ref mt, .ref ml, .ref mk, .ref mv, .int (nI pz), .int (nI (j + 1)), .int 0])), (mp, .inl (cI, 64, .inl fo)), (mq, .inl (cI, 64, .inl fn)), (mr, .inl (cI, 576, .inl fR)), (mw, .inl (cZ, 64, .inl fW)), (mt, .inl (cI, 8, .inl (upd fs1 t0 (m_comb (fo a) (fs1 t0) (fs1 (t0 + 1)))))), (ml, .inl (cI, 4, .inl fl1)), (mk, .inl (cI, 20, .inl fk1)), (mv, .inl (cI, 20, .inl fv1))] := hD
                refine lv_goto (tgt := 29) hx hb d_Model_done_468 (by decide) ?_
                have hl := lv_sub (l' := [(5, .int ((nI a) + 1)), (4, .int ((nI (t0 + 2)) + (-1))), (0, .ref mo), (1, .int x), (2, .int y), (3, .int z)]) hl [1, 0, 4, 5, 6, 7] rfl
                have hl : lv_has ls 9 [(5, .int (nI (a + 1))), (4, .int (nI (t0 + 1))), (0, .ref mo), (1, .int x), (2, .int y), (3, .int z)] := by
                  rw [show nI a + 1 = nI (a + 1) from nI_1 a, show ((nI (t0 + 2)) + (-1)) = nI (t0 + 1) from pk_m1 (t0 + 1)] at hl; exact hl
                have hR2 : Rch kd (acOf kd) n fo fn (a + 1) (t0 + 1) := Rch_s ha ht9 hR hc ⟨ha1, by omega, by rw [eo]; exact (pk_m1 (t0 + 1)), Or.inl ⟨by rw [eo]; decide, rfl⟩⟩
                have h1 : m_one (rd fo 64 (nI a)) (rd fn 64 (nI a)) kd (0, nI j + 1, nI pz, fk1, fv1, fa, fl1, fs1, nI (t0 + 2), nI a) = (3, (0, nI (j + 1), (nI pz), fk1, fv1, fa, fl1, (upd fs1 t0 (m_comb (fo a) (fs1 t0) (fs1 (t0 + 1)))), nI (t0 + 1), nI (a + 1))) := by
                  rw [er, en, nI_1 j, ← nI_1 a, eo]; exact one_c (by omega) (by omega) (by omega)
                exact ih (j + 1) (t0 + 1) (a + 1) (pz) _ _ _ _ _ _ _ (by omega) hl hP hD ha1 (by omega) hR2 (by omega) ((m_loop_s (N := N) (S := (0, nI j, nI pz, fk1, fv1, fa, fl1, fs1, nI (t0 + 2), nI a)) h1).symm.trans hT) hS
              · -- op 13
                refine lv_eqi (y := 13) eo ?_
                refine lv_tableIn (tgt := 435) (off := 363) hx hb d_Model_done_72 (by decide) (by decide) (by decide +kernel) (by decide) ?_
                have tlo : 2 ≤ tp := (by decide +kernel : ∀ t, t < 9 → ¬ nI t < rd tNeeds 19 (nI 13) → 2 ≤ t) tp ht9 hq.1
                obtain ⟨t0, rfl⟩ : ∃ t0, tp = t0 + 2 := ⟨tp - 2, by omega⟩
                have ha1 : a + 1 < n := hxn (by rw [eo]; decide)
                refine lv_iinc (v := ((nI (t0 + 2)) + (-1))) (k := 3) hx hb d_Model_done_435 hl rfl rfl (by decide) rfl (fun ls hl => ?_)
                have hl : lv_has ls 9 [(4, .int ((nI (t0 + 2)) + (-1))), (5, .int ((nI a) + 1)), (7, .int (fn a)), (6, .int (fo a)), (0, .ref mo), (1, .int x), (2, .int y), (3, .int z)] := hl
                refine lv_aload_n hx hb d_Model_done_438 rfl (lv_at hl 4 rfl) ?_
                refine va_get (D := D) (ci := 4) (v := .ref mt) (C := R_Model) (T := F_Model) (N := 13) hx hb hts in_Model hown hE.1 hP 0 rfl rfl 6 (by decide) (hts _ k_322) (fun _ h9 => h9) rfl d_Model_done_439 ?_
                refine lv_iload hx hb d_Model_done_442 (lv_at hl 0 rfl) ?_
                refine lv_eqi (y := (nI (t0 + 1))) (pk_m1 (t0 + 1)) ?_
                refine lv_iconst (v := 1) hx hb d_Model_done_444 (by decide) ?_
                refine lv_isub hx hb d_Model_done_445 ?_
                refine lv_eqi (y := (nI t0)) (nI_p1 t0) ?_
                refine lv_iload hx hb d_Model_done_446 (lv_at hl 3 rfl) ?_
                refine lv_aload_n hx hb d_Model_done_448 rfl (lv_at hl 4 rfl) ?_
                refine va_get (D := D) (ci := 4) (v := .ref mt) (C := R_Model) (T := F_Model) (N := 13) hx hb hts in_Model hown hE.1 hP 0 rfl rfl 6 (by decide) (hts _ k_322) (fun _ h9 => h9) rfl d_Model_done_449 ?_
                refine lv_iload hx hb d_Model_done_452 (lv_at hl 0 rfl) ?_
                refine lv_eqi (y := (nI (t0 + 1))) (pk_m1 (t0 + 1)) ?_
                refine lv_iconst (v := 1) hx hb d_Model_done_454 (by decide) ?_
                refine lv_isub hx hb d_Model_done_455 ?_
                refine lv_eqi (y := (nI t0)) (nI_p1 t0) ?_
                refine va_iald hx hb hE.1 hP 5 0 rfl rfl (vp_in_nI (by omega) (by decide)) d_Model_done_456 ?_
                refine lv_eqi (y := fs1 t0) (congrArg fs1 (nI_clamp (show t0 < 2 ^ 31 by omega))) ?_
                refine lv_aload_n hx hb d_Model_done_457 rfl (lv_at hl 4 rfl) ?_
                refine va_get (D := D) (ci := 4) (v := .ref mt) (C := R_Model) (T := F_Model) (N := 13) hx hb hts in_Model hown hE.1 hP 0 rfl rfl 6 (by decide) (hts _ k_322) (fun _ h9 => h9) rfl d_Model_done_458 ?_
                refine lv_iload hx hb d_Model_done_461 (lv_at hl 0 rfl) ?_
                refine lv_eqi (y := (nI (t0 + 1))) (pk_m1 (t0 + 1)) ?_
                refine va_iald hx hb hE.1 hP 5 0 rfl rfl (vp_in_nI (by omega) (by decide)) d_Model_done_463 ?_
                refine lv_eqi (y := fs1 (t0 + 1)) (congrArg fs1 (nI_clamp (show (t0 + 1) < 2 ^ 31 by omega))) ?_
                refine vp_callSi (va_Run.run (va_runS (As := [.int (fo a), .int (fs1 t0), .int (fs1 (t0 + 1))]) (rest := [.int (nI t0), .ref mt]) ⟨hx, hb, hml, hown, hts⟩ (c_Model_reckoned l (fo a) (fs1 t0) (fs1 (t0 + 1))) (cwS 3 hts (gd3 k_409 k_410 k_22 k_411) rfl rfl rfl (by decide +kernel) ⟨Nat.le_of_ble_eq_true rfl, Nat.le_of_ble_eq_true rfl⟩) ⟨fun _ _ _ _ q => q, fun _ _ _ => ⟨rfl, trivial⟩⟩ rfl rfl hl.1 rfl (lv_room (Nat.le_of_ble_eq_true rfl)) d_Model_done_464 ⟨Nat.zero_le _, Nat.zero_le _⟩)) (fun r hq => ?_)
                subst hq
                refine va_iast hx hb hE.1 hP hD hS 5 0 rfl rfl (vp_in_nI (by omega) (by decide)) d_Model_done_467 (fun H locs hP hD hS => ?_)
                rw [nI_clamp (show t0 < 2 ^ 31 by omega)] at hP hD
                have hP : va_P D classes [(mo, .inr (4, [.int kd, .ref mp, .ref mq, .int (nI n), .ref mr, .ref mw, .ref mt, .ref ml, .ref mk, .ref mv, .int (nI pz), .int (nI (j + 1)), .int 0])), (mp, .inl (cI, 64, .inl fo)), (mq, .inl (cI, 64, .inl fn)), (mr, .inl (cI, 576, .inl fR)), (mw, .inl (cZ, 64, .inl fW)), (mt, .inl (cI, 8, .inl (upd fs1 t0 (m_comb (fo a) (fs1 t0) (fs1 (t0 + 1)))))), (ml, .inl (cI, 4, .inl fl1)), (mk, .inl (cI, 20, .inl fk1)), (mv, .inl (cI, 20, .inl fv1))] H := hP
                have hD : va_D A [(mo, .inr (4, [.int kd, .ref mp, .ref mq, .int (nI n), .ref mr, .ref mw, .ref mt, .ref ml, .ref mk, .ref mv, .int (nI pz), .int (nI (j + 1)), .int 0])), (mp, .inl (cI, 64, .inl fo)), (mq, .inl (cI, 64, .inl fn)), (mr, .inl (cI, 576, .inl fR)), (mw, .inl (cZ, 64, .inl fW)), (mt, .inl (cI, 8, .inl (upd fs1 t0 (m_comb (fo a) (fs1 t0) (fs1 (t0 + 1)))))), (ml, .inl (cI, 4, .inl fl1)), (mk, .inl (cI, 20, .inl fk1)), (mv, .inl (cI, 20, .inl fv1))] := hD
                refine lv_goto (tgt := 29) hx hb d_Model_done_468 (by decide) ?_
                have hl := lv_sub (l' := [(5, .int ((nI a) + 1)), (4, .int ((nI (t0 + 2)) + (-1))), (0, .ref mo), (1, .int x), (2, .int y), (3, .int z)]) hl [1, 0, 4, 5, 6, 7] rfl
                have hl : lv_has ls 9 [(5, .int (nI (a + 1))), (4, .int (nI (t0 + 1))), (0, .ref mo), (1, .int x), (2, .int y), (3, .int z)] := by
                  rw [show nI a + 1 = nI (a + 1) from nI_1 a, show ((nI (t0 + 2)) + (-1)) = nI (t0 + 1) from pk_m1 (t0 + 1)] at hl; exact hl
                have hR2 : Rch kd (acOf kd) n fo fn (a + 1) (t0 + 1) := Rch_s ha ht9 hR hc ⟨ha1, by omega, by rw [eo]; exact (pk_m1 (t0 + 1)), Or.inl ⟨by rw [eo]; decide, rfl⟩⟩
                have h1 : m_one (rd fo 64 (nI a)) (rd fn 64 (nI a)) kd (0, nI j + 1, nI pz, fk1, fv1, fa, fl1, fs1, nI (t0 + 2), nI a) = (3, (0, nI (j + 1), (nI pz), fk1, fv1, fa, fl1, (upd fs1 t0 (m_comb (fo a) (fs1 t0) (fs1 (t0 + 1)))), nI (t0 + 1), nI (a + 1))) := by
                  rw [er, en, nI_1 j, ← nI_1 a, eo]; exact one_c (by omega) (by omega) (by omega)
                exact ih (j + 1) (t0 + 1) (a + 1) (pz) _ _ _ _ _ _ _ (by omega) hl hP hD ha1 (by omega) hR2 (by omega) ((m_loop_s (N := N) (S := (0, nI j, nI pz, fk1, fv1, fa, fl1, fs1, nI (t0 + 2), nI a)) h1).symm.trans hT) hS
              · -- op 14
                refine lv_eqi (y := 14) eo ?_
                refine lv_tableIn (tgt := 323) (off := 251) hx hb d_Model_done_72 (by decide) (by decide) (by decide +kernel) (by decide) ?_
                obtain ⟨k1, hkk, ek⟩ := hjm (by rw [eo]; decide)
                refine lv_iload hx hb d_Model_done_323 (lv_at hl 1 rfl) ?_
                refine lv_eqi (y := (nI k1)) (ek) ?_
                refine lv_istore hx hb d_Model_done_325 hl (by decide) rfl (fun ls hl => ?_)
                have hl : lv_has ls 9 [(5, .int (nI k1)), (7, .int (fn a)), (6, .int (fo a)), (4, .int (nI tp)), (0, .ref mo), (1, .int x), (2, .int y), (3, .int z)] := hl
                refine lv_goto (tgt := 468) hx hb d_Model_done_327 (by decide) ?_
                refine lv_goto (tgt := 29) hx hb d_Model_done_468 (by decide) ?_
                have hl := lv_sub (l' := [(5, .int (nI k1)), (4, .int (nI tp)), (0, .ref mo), (1, .int x), (2, .int y), (3, .int z)]) hl [0, 3, 4, 5, 6, 7] rfl
                have hl : lv_has ls 9 [(5, .int (nI k1)), (4, .int (nI (tp))), (0, .ref mo), (1, .int x), (2, .int y), (3, .int z)] := by
                  exact hl
                have hR2 : Rch kd (acOf kd) n fo fn k1 (tp) := Rch_s ha ht9 hR hc ⟨hkk, by omega, by rw [eo]; exact (Int32.add_zero _), Or.inr ⟨by rw [eo]; decide, ek⟩⟩
                have h1 : m_one (rd fo 64 (nI a)) (rd fn 64 (nI a)) kd (0, nI j + 1, nI pz, fk1, fv1, fa, fl1, fs1, nI tp, nI a) = (3, (0, nI (j + 1), (nI pz), fk1, fv1, fa, fl1, fs1, nI (tp), nI k1)) := by
                  rw [er, en, nI_1 j, ek]; exact one_14
                exact ih (j + 1) (tp) k1 (pz) _ _ _ _ _ _ _ (by omega) hl hP hD hkk (by omega) hR2 (by omega) ((m_loop_s (N := N) (S := (0, nI j, nI pz, fk1, fv1, fa, fl1, fs1, nI tp, nI a)) h1).symm.trans hT) hS
              · -- op 15
                refine lv_eqi (y := 15) eo ?_
                refine lv_tableIn (tgt := 330) (off := 258) hx hb d_Model_done_72 (by decide) (by decide) (by decide +kernel) (by decide) ?_
                have tlo : 1 ≤ tp := (by decide +kernel : ∀ t, t < 9 → ¬ nI t < rd tNeeds 19 (nI 15) → 1 ≤ t) tp ht9 hq.1
                obtain ⟨t0, rfl⟩ : ∃ t0, tp = t0 + 1 := ⟨tp - 1, by omega⟩
                obtain ⟨k1, hkk, ek⟩ := hjm (by rw [eo]; decide)
                have ha1 : a + 1 < n := hxn (by rw [eo]; decide)
                refine lv_iinc (v := ((nI (t0 + 1)) + (-1))) (k := 3) hx hb d_Model_done_330 hl rfl rfl (by decide) rfl (fun ls hl => ?_)
                have hl : lv_has ls 9 [(4, .int ((nI (t0 + 1)) + (-1))), (5, .int ((nI a) + 1)), (7, .int (fn a)), (6, .int (fo a)), (0, .ref mo), (1, .int x), (2, .int y), (3, .int z)] := hl
                refine lv_aload_n hx hb d_Model_done_333 rfl (lv_at hl 4 rfl) ?_
                refine va_get (D := D) (ci := 4) (v := .ref mt) (C := R_Model) (T := F_Model) (N := 13) hx hb hts in_Model hown hE.1 hP 0 rfl rfl 6 (by decide) (hts _ k_322) (fun _ h9 => h9) rfl d_Model_done_334 ?_
                refine lv_iload hx hb d_Model_done_337 (lv_at hl 0 rfl) ?_
                refine lv_eqi (y := (nI t0)) (pk_m1 t0) ?_
                refine va_iald hx hb hE.1 hP 5 0 rfl rfl (vp_in_nI (by omega) (by decide)) d_Model_done_339 ?_
                refine lv_eqi (y := fs1 t0) (congrArg fs1 (nI_clamp (show t0 < 2 ^ 31 by omega))) ?_
                refine lv_if_ne (tgt := 468) hx hb d_Model_done_340 (by decide) (fun h6 => ?_) (fun h6 => ?_)
                · -- ¬ (fs1 t0) = 0
                  refine lv_goto (tgt := 29) hx hb d_Model_done_468 (by decide) ?_
                  have hl := lv_sub (l' := [(5, .int ((nI a) + 1)), (4, .int ((nI (t0 + 1)) + (-1))), (0, .ref mo), (1, .int x), (2, .int y), (3, .int z)]) hl [1, 0, 4, 5, 6, 7] rfl
                  have hl : lv_has ls 9 [(5, .int (nI (a + 1))), (4, .int (nI (t0))), (0, .ref mo), (1, .int x), (2, .int y), (3, .int z)] := by
                    rw [show nI a + 1 = nI (a + 1) from nI_1 a, show ((nI (t0 + 1)) + (-1)) = nI (t0) from pk_m1 t0] at hl; exact hl
                  have hR2 : Rch kd (acOf kd) n fo fn (a + 1) (t0) := Rch_s ha ht9 hR hc ⟨ha1, by omega, by rw [eo]; exact (pk_m1 t0), Or.inl ⟨by rw [eo]; decide, rfl⟩⟩
                  have h1 : m_one (rd fo 64 (nI a)) (rd fn 64 (nI a)) kd (0, nI j + 1, nI pz, fk1, fv1, fa, fl1, fs1, nI (t0 + 1), nI a) = (3, (0, nI (j + 1), (nI pz), fk1, fv1, fa, fl1, fs1, nI (t0), nI (a + 1))) := by
                    rw [er, en, nI_1 j, ek, show m_one (nI 15) (nI k1) kd (0, nI (j + 1), nI pz, fk1, fv1, fa, fl1, fs1, nI (t0 + 1), nI a) = _ from one_15 (by omega), if_neg h6]; rw [nI_1]
                  exact ih (j + 1) (t0) (a + 1) (pz) _ _ _ _ _ _ _ (by omega) hl hP hD ha1 (by omega) hR2 (by omega) ((m_loop_s (N := N) (S := (0, nI j, nI pz, fk1, fv1, fa, fl1, fs1, nI (t0 + 1), nI a)) h1).symm.trans hT) hS
                · -- (fs1 t0) = 0
                  refine lv_iload hx hb d_Model_done_343 (lv_at hl 2 rfl) ?_
                  refine lv_eqi (y := (nI k1)) (ek) ?_
                  refine lv_istore hx hb d_Model_done_345 hl (by decide) rfl (fun ls hl => ?_)
                  have hl : lv_has ls 9 [(5, .int (nI k1)), (4, .int ((nI (t0 + 1)) + (-1))), (7, .int (fn a)), (6, .int (fo a)), (0, .ref mo), (1, .int x), (2, .int y), (3, .int z)] := hl
                  refine lv_goto (tgt := 468) hx hb d_Model_done_347 (by decide) ?_
                  refine lv_goto (tgt := 29) hx hb d_Model_done_468 (by decide) ?_
                  have hl := lv_sub (l' := [(5, .int (nI k1)), (4, .int ((nI (t0 + 1)) + (-1))), (0, .ref mo), (1, .int x), (2, .int y), (3, .int z)]) hl [0, 1, 4, 5, 6, 7] rfl
                  have hl : lv_has ls 9 [(5, .int (nI k1)), (4, .int (nI (t0))), (0, .ref mo), (1, .int x), (2, .int y), (3, .int z)] := by
                    rw [show ((nI (t0 + 1)) + (-1)) = nI (t0) from pk_m1 t0] at hl; exact hl
                  have hR2 : Rch kd (acOf kd) n fo fn k1 (t0) := Rch_s ha ht9 hR hc ⟨hkk, by omega, by rw [eo]; exact (pk_m1 t0), Or.inr ⟨by rw [eo]; decide, ek⟩⟩
                  have h1 : m_one (rd fo 64 (nI a)) (rd fn 64 (nI a)) kd (0, nI j + 1, nI pz, fk1, fv1, fa, fl1, fs1, nI (t0 + 1), nI a) = (3, (0, nI (j + 1), (nI pz), fk1, fv1, fa, fl1, fs1, nI (t0), nI k1)) := by
                    rw [er, en, nI_1 j, ek, show m_one (nI 15) (nI k1) kd (0, nI (j + 1), nI pz, fk1, fv1, fa, fl1, fs1, nI (t0 + 1), nI a) = _ from one_15 (by omega), if_pos h6]
                  exact ih (j + 1) (t0) k1 (pz) _ _ _ _ _ _ _ (by omega) hl hP hD hkk (by omega) hR2 (by omega) ((m_loop_s (N := N) (S := (0, nI j, nI pz, fk1, fv1, fa, fl1, fs1, nI (t0 + 1), nI a)) h1).symm.trans hT) hS
              · -- op 16
                refine lv_eqi (y := 16) eo ?_
                refine lv_tableIn (tgt := 350) (off := 278) hx hb d_Model_done_72 (by decide) (by decide) (by decide +kernel) (by decide) ?_
                have tlo : 2 ≤ tp := (by decide +kernel : ∀ t, t < 9 → ¬ nI t < rd tNeeds 19 (nI 16) → 2 ≤ t) tp ht9 hq.1
                obtain ⟨t0, rfl⟩ : ∃ t0, tp = t0 + 2 := ⟨tp - 2, by omega⟩
                have ha1 : a + 1 < n := hxn (by rw [eo]; decide)
                refine lv_aload_n hx hb d_Model_done_350 rfl (lv_at hl 4 rfl) ?_
                refine va_get (D := D) (ci := 4) (v := .int (nI pz)) (C := R_Model) (T := F_Model) (N := 13) hx hb hts in_Model hown hE.1 hP 0 rfl rfl 10 (by decide) (hts _ k_326) (fun _ h9 => h9) rfl d_Model_done_351 ?_
                refine lv_bipush (v := 20) hx hb d_Model_done_354 (by decide) ?_
                refine lv_icmp_ne (tgt := 361) hx hb d_Model_done_356 (by decide) (fun h7 => ?_) (fun h7 => ?_)
                · -- ¬ (nI pz) = 20
                  have hpz : pz < 20 := Nat.lt_of_le_of_ne hp20 (fun q => h7 (by rw [q]; rfl))
                  refine lv_iinc (v := ((nI (t0 + 2)) + (-2))) (k := 3) hx hb d_Model_done_361 hl rfl rfl (by decide) rfl (fun ls hl => ?_)
                  have hl : lv_has ls 9 [(4, .int ((nI (t0 + 2)) + (-2))), (5, .int ((nI a) + 1)), (7, .int (fn a)), (6, .int (fo a)), (0, .ref mo), (1, .int x), (2, .int y), (3, .int z)] := hl
                  refine lv_aload_n hx hb d_Model_done_364 rfl (lv_at hl 4 rfl) ?_
                  refine va_get (D := D) (ci := 4) (v := .ref mk) (C := R_Model) (T := F_Model) (N := 13) hx hb hts in_Model hown hE.1 hP 0 rfl rfl 8 (by decide) (hts _ k_324) (fun _ h9 => h9) rfl d_Model_done_365 ?_
                  refine lv_aload_n hx hb d_Model_done_368 rfl (lv_at hl 4 rfl) ?_
                  refine va_get (D := D) (ci := 4) (v := .int (nI pz)) (C := R_Model) (T := F_Model) (N := 13) hx hb hts in_Model hown hE.1 hP 0 rfl rfl 10 (by decide) (hts _ k_326) (fun _ h9 => h9) rfl d_Model_done_369 ?_
                  refine lv_aload_n hx hb d_Model_done_372 rfl (lv_at hl 4 rfl) ?_
                  refine va_get (D := D) (ci := 4) (v := .ref mt) (C := R_Model) (T := F_Model) (N := 13) hx hb hts in_Model hown hE.1 hP 0 rfl rfl 6 (by decide) (hts _ k_322) (fun _ h9 => h9) rfl d_Model_done_373 ?_
                  refine lv_iload hx hb d_Model_done_376 (lv_at hl 0 rfl) ?_
                  refine lv_eqi (y := (nI t0)) (nI_m2 t0) ?_
                  refine va_iald hx hb hE.1 hP 5 0 rfl rfl (vp_in_nI (by omega) (by decide)) d_Model_done_378 ?_
                  refine lv_eqi (y := fs1 t0) (congrArg fs1 (nI_clamp (show t0 < 2 ^ 31 by omega))) ?_
                  refine va_iast hx hb hE.1 hP hD hS 7 0 rfl rfl (vp_in_nI (by omega) (by decide)) d_Model_done_379 (fun H locs hP hD hS => ?_)
                  rw [nI_clamp (show pz < 2 ^ 31 by omega)] at hP hD
                  have hP : va_P D classes [(mo, .inr (4, [.int kd, .ref mp, .ref mq, .int (nI n), .ref mr, .ref mw, .ref mt, .ref ml, .ref mk, .ref mv, .int (nI pz), .int (nI (j + 1)), .int 0])), (mp, .inl (cI, 64, .inl fo)), (mq, .inl (cI, 64, .inl fn)), (mr, .inl (cI, 576, .inl fR)), (mw, .inl (cZ, 64, .inl fW)), (mt, .inl (cI, 8, .inl fs1)), (ml, .inl (cI, 4, .inl fl1)), (mk, .inl (cI, 20, .inl (upd fk1 pz (fs1 t0)))), (mv, .inl (cI, 20, .inl fv1))] H := hP
                  have hD : va_D A [(mo, .inr (4, [.int kd, .ref mp, .ref mq, .int (nI n), .ref mr, .ref mw, .ref mt, .ref ml, .ref mk, .ref mv, .int (nI pz), .int (nI (j + 1)), .int 0])), (mp, .inl (cI, 64, .inl fo)), (mq, .inl (cI, 64, .inl fn)), (mr, .inl (cI, 576, .inl fR)), (mw, .inl (cZ, 64, .inl fW)), (mt, .inl (cI, 8, .inl fs1)), (ml, .inl (cI, 4, .inl fl1)), (mk, .inl (cI, 20, .inl (upd fk1 pz (fs1 t0)))), (mv, .inl (cI, 20, .inl fv1))] := hD
                  refine lv_aload_n hx hb d_Model_done_380 rfl (lv_at hl 4 rfl) ?_
                  refine va_get (D := D) (ci := 4) (v := .ref mv) (C := R_Model) (T := F_Model) (N := 13) hx hb hts in_Model hown hE.1 hP 0 rfl rfl 9 (by decide) (hts _ k_325) (fun _ h9 => h9) rfl d_Model_done_381 ?_
                  refine lv_aload_n hx hb d_Model_done_384 rfl (lv_at hl 4 rfl) ?_
                  refine va_get (D := D) (ci := 4) (v := .int (nI pz)) (C := R_Model) (T := F_Model) (N := 13) hx hb hts in_Model hown hE.1 hP 0 rfl rfl 10 (by decide) (hts _ k_326) (fun _ h9 => h9) rfl d_Model_done_385 ?_
                  refine lv_aload_n hx hb d_Model_done_388 rfl (lv_at hl 4 rfl) ?_
                  refine va_get (D := D) (ci := 4) (v := .ref mt) (C := R_Model) (T := F_Model) (N := 13) hx hb hts in_Model hown hE.1 hP 0 rfl rfl 6 (by decide) (hts _ k_322) (fun _ h9 => h9) rfl d_Model_done_389 ?_
                  refine lv_iload hx hb d_Model_done_392 (lv_at hl 0 rfl) ?_
                  refine lv_eqi (y := (nI t0)) (nI_m2 t0) ?_
                  refine lv_iconst (v := 1) hx hb d_Model_done_394 (by decide) ?_
                  refine lv_iadd hx hb d_Model_done_395 ?_
                  refine lv_eqi (y := (nI (t0 + 1))) (nI_1 t0) ?_
                  refine va_iald hx hb hE.1 hP 5 0 rfl rfl (vp_in_nI (by omega) (by decide)) d_Model_done_396 ?_
                  refine lv_eqi (y := fs1 (t0 + 1)) (congrArg fs1 (nI_clamp (show (t0 + 1) < 2 ^ 31 by omega))) ?_
                  refine va_iast hx hb hE.1 hP hD hS 8 0 rfl rfl (vp_in_nI (by omega) (by decide)) d_Model_done_397 (fun H locs hP hD hS => ?_)
                  rw [nI_clamp (show pz < 2 ^ 31 by omega)] at hP hD
                  have hP : va_P D classes [(mo, .inr (4, [.int kd, .ref mp, .ref mq, .int (nI n), .ref mr, .ref mw, .ref mt, .ref ml, .ref mk, .ref mv, .int (nI pz), .int (nI (j + 1)), .int 0])), (mp, .inl (cI, 64, .inl fo)), (mq, .inl (cI, 64, .inl fn)), (mr, .inl (cI, 576, .inl fR)), (mw, .inl (cZ, 64, .inl fW)), (mt, .inl (cI, 8, .inl fs1)), (ml, .inl (cI, 4, .inl fl1)), (mk, .inl (cI, 20, .inl (upd fk1 pz (fs1 t0)))), (mv, .inl (cI, 20, .inl (upd fv1 pz (fs1 (t0 + 1)))))] H := hP
                  have hD : va_D A [(mo, .inr (4, [.int kd, .ref mp, .ref mq, .int (nI n), .ref mr, .ref mw, .ref mt, .ref ml, .ref mk, .ref mv, .int (nI pz), .int (nI (j + 1)), .int 0])), (mp, .inl (cI, 64, .inl fo)), (mq, .inl (cI, 64, .inl fn)), (mr, .inl (cI, 576, .inl fR)), (mw, .inl (cZ, 64, .inl fW)), (mt, .inl (cI, 8, .inl fs1)), (ml, .inl (cI, 4, .inl fl1)), (mk, .inl (cI, 20, .inl (upd fk1 pz (fs1 t0)))), (mv, .inl (cI, 20, .inl (upd fv1 pz (fs1 (t0 + 1)))))] := hD
                  refine lv_aload_n hx hb d_Model_done_398 rfl (lv_at hl 4 rfl) ?_
                  refine lv_dup hx hb d_Model_done_399 rfl ?_
                  refine va_get (D := D) (ci := 4) (v := .int (nI pz)) (C := R_Model) (T := F_Model) (N := 13) hx hb hts in_Model hown hE.1 hP 0 rfl rfl 10 (by decide) (hts _ k_326) (fun _ h9 => h9) rfl d_Model_done_400 ?_
                  refine lv_iconst (v := 1) hx hb d_Model_done_403 (by decide) ?_
                  refine lv_iadd hx hb d_Model_done_404 ?_
                  refine lv_eqi (y := (nI (pz + 1))) (nI_1 pz) ?_
                  refine va_put (D := D) (ci := 4) (v := .int (nI (pz + 1))) (ty := .int) (C := R_Model) (T := F_Model) (N := 13) hx hb hts in_Model t_Model t_Model_ok n_Model hown hE.1 hP hD hS 0 rfl rfl 10 (by decide) (hts _ k_326) (fun _ h9 => h9) rfl (by decide +kernel) rfl rfl (Nat.le_of_ble_eq_true rfl) d_Model_done_405 (fun H locs hP hD hS => ?_)
                  have hP : va_P D classes [(mo, .inr (4, [.int kd, .ref mp, .ref mq, .int (nI n), .ref mr, .ref mw, .ref mt, .ref ml, .ref mk, .ref mv, .int (nI (pz + 1)), .int (nI (j + 1)), .int 0])), (mp, .inl (cI, 64, .inl fo)), (mq, .inl (cI, 64, .inl fn)), (mr, .inl (cI, 576, .inl fR)), (mw, .inl (cZ, 64, .inl fW)), (mt, .inl (cI, 8, .inl fs1)), (ml, .inl (cI, 4, .inl fl1)), (mk, .inl (cI, 20, .inl (upd fk1 pz (fs1 t0)))), (mv, .inl (cI, 20, .inl (upd fv1 pz (fs1 (t0 + 1)))))] H := hP
                  have hD : va_D A [(mo, .inr (4, [.int kd, .ref mp, .ref mq, .int (nI n), .ref mr, .ref mw, .ref mt, .ref ml, .ref mk, .ref mv, .int (nI (pz + 1)), .int (nI (j + 1)), .int 0])), (mp, .inl (cI, 64, .inl fo)), (mq, .inl (cI, 64, .inl fn)), (mr, .inl (cI, 576, .inl fR)), (mw, .inl (cZ, 64, .inl fW)), (mt, .inl (cI, 8, .inl fs1)), (ml, .inl (cI, 4, .inl fl1)), (mk, .inl (cI, 20, .inl (upd fk1 pz (fs1 t0)))), (mv, .inl (cI, 20, .inl (upd fv1 pz (fs1 (t0 + 1)))))] := hD
                  refine lv_goto (tgt := 468) hx hb d_Model_done_408 (by decide) ?_
                  refine lv_goto (tgt := 29) hx hb d_Model_done_468 (by decide) ?_
                  have hl := lv_sub (l' := [(5, .int ((nI a) + 1)), (4, .int ((nI (t0 + 2)) + (-2))), (0, .ref mo), (1, .int x), (2, .int y), (3, .int z)]) hl [1, 0, 4, 5, 6, 7] rfl
                  have hl : lv_has ls 9 [(5, .int (nI (a + 1))), (4, .int (nI (t0))), (0, .ref mo), (1, .int x), (2, .int y), (3, .int z)] := by
                    rw [show nI a + 1 = nI (a + 1) from nI_1 a, show ((nI (t0 + 2)) + (-2)) = nI (t0) from nI_m2 t0] at hl; exact hl
                  have hR2 : Rch kd (acOf kd) n fo fn (a + 1) (t0) := Rch_s ha ht9 hR hc ⟨ha1, by omega, by rw [eo]; exact (nI_m2 t0), Or.inl ⟨by rw [eo]; decide, rfl⟩⟩
                  have h1 : m_one (rd fo 64 (nI a)) (rd fn 64 (nI a)) kd (0, nI j + 1, nI pz, fk1, fv1, fa, fl1, fs1, nI (t0 + 2), nI a) = (3, (0, nI (j + 1), (nI (pz + 1)), (upd fk1 pz (fs1 t0)), (upd fv1 pz (fs1 (t0 + 1))), fa, fl1, fs1, nI (t0), nI (a + 1))) := by
                    rw [er, en, nI_1 j, ← nI_1 a]; exact one_16 (by omega) hpz
                  exact ih (j + 1) (t0) (a + 1) (pz + 1) _ _ _ _ _ _ _ (by omega) hl hP hD ha1 (by omega) hR2 (by omega) ((m_loop_s (N := N) (S := (0, nI j, nI pz, fk1, fv1, fa, fl1, fs1, nI (t0 + 2), nI a)) h1).symm.trans hT) hS
                · -- (nI pz) = 20
                  refine lv_iconst (v := 2) hx hb d_Model_done_359 (by decide) ?_
                  refine W.iret hx hb hr (fun t ht hW => ⟨⟨2, (0, (nI (j + 1)), (nI pz), fk1, fv1, fl1, fs1), rfl, ?_, ?_⟩, hS.F ht⟩) hS.2.2 d_Model_done_360
                  · (obtain rfl : pz = 20 := (nI_eq (by omega) (by omega)).mp (show nI pz = nI 20 from h7); exact ⟨2, nI (t0 + 2), nI a + 1, by rw [← hTT, ← hT, m_loop_s (o := 2) (S' := (0, nI (j + 1), nI 20, fk1, fv1, fa, fl1, fs1, nI (t0 + 2), nI a + 1)) (by show m_one (rd fo 64 (nI a)) (rd fn 64 (nI a)) kd (0, nI j + 1, nI 20, fk1, fv1, fa, fl1, fs1, nI (t0 + 2), nI a) = _; rw [er, en, nI_1 j]; exact one_16f), m_loop_x (by decide)], rfl⟩)
                  · exact ⟨by rw [ht]; exact hP.sub [0, 1, 2, 3, 4, 5, 6, 7, 8] rfl, hD.sub [0, 1, 2, 3, 4, 5, 6, 7, 8] (by decide) rfl⟩
              · -- op 17
                refine lv_eqi (y := 17) eo ?_
                refine lv_tableIn (tgt := 411) (off := 339) hx hb d_Model_done_72 (by decide) (by decide) (by decide +kernel) (by decide) ?_
                refine lv_aload_n hx hb d_Model_done_411 rfl (lv_at hl 4 rfl) ?_
                refine va_get (D := D) (ci := 4) (v := .int kd) (C := R_Model) (T := F_Model) (N := 13) hx hb hts in_Model hown hE.1 hP 0 rfl rfl 0 (by decide) (hts _ k_316) (fun _ h9 => h9) rfl d_Model_done_412 ?_
                refine lv_if_eq (tgt := 431) hx hb d_Model_done_415 (by decide) (fun h8 => ?_) (fun h8 => ?_)
                · -- kd = 0
                  refine lv_iconst (v := 0) hx hb d_Model_done_431 (by decide) ?_
                  refine W.iret hx hb hr (fun t ht hW => ⟨⟨0, (0, (nI (j + 1)), (nI pz), fk1, fv1, fl1, fs1), rfl, ?_, ?_⟩, hS.F ht⟩) hS.2.2 d_Model_done_432
                  · (subst h8; exact ⟨0, nI tp, nI a + 1, by rw [← hTT, ← hT, m_loop_s (o := 0) (S' := (0, nI (j + 1), nI pz, fk1, fv1, fa, fl1, fs1, nI tp, nI a + 1)) (by show m_one (rd fo 64 (nI a)) (rd fn 64 (nI a)) 0 (0, nI j + 1, nI pz, fk1, fv1, fa, fl1, fs1, nI tp, nI a) = _; rw [er, en, nI_1 j]; exact one_17z), m_loop_x (by decide)], rfl⟩)
                  · exact ⟨by rw [ht]; exact hP.sub [0, 1, 2, 3, 4, 5, 6, 7, 8] rfl, hD.sub [0, 1, 2, 3, 4, 5, 6, 7, 8] (by decide) rfl⟩
                · -- ¬ kd = 0
                  have tlo : 1 ≤ tp := (by decide +kernel : ∀ t, t < 9 → ¬ nI t < rd tNeeds 19 (nI 17) → 1 ≤ t) tp ht9 (by have q := hq.1; unfold o_needs at q; rw [if_pos (show nI 17 = (17 : Int32) from rfl), if_neg h8] at q; exact q)
                  obtain ⟨t0, rfl⟩ : ∃ t0, tp = t0 + 1 := ⟨tp - 1, by omega⟩
                  refine lv_aload_n hx hb d_Model_done_418 rfl (lv_at hl 4 rfl) ?_
                  refine lv_aload_n hx hb d_Model_done_419 rfl (lv_at hl 4 rfl) ?_
                  refine va_get (D := D) (ci := 4) (v := .ref mt) (C := R_Model) (T := F_Model) (N := 13) hx hb hts in_Model hown hE.1 hP 0 rfl rfl 6 (by decide) (hts _ k_322) (fun _ h9 => h9) rfl d_Model_done_420 ?_
                  refine lv_iload hx hb d_Model_done_423 (lv_at hl 3 rfl) ?_
                  refine lv_iconst (v := 1) hx hb d_Model_done_425 (by decide) ?_
                  refine lv_isub hx hb d_Model_done_426 ?_
                  refine lv_eqi (y := (nI t0)) (nI_p1 t0) ?_
                  refine va_iald hx hb hE.1 hP 5 0 rfl rfl (vp_in_nI (by omega) (by decide)) d_Model_done_427 ?_
                  refine lv_eqi (y := fs1 t0) (congrArg fs1 (nI_clamp (show t0 < 2 ^ 31 by omega))) ?_
                  refine va_put (D := D) (ci := 4) (v := .int (fs1 t0)) (ty := .int) (C := R_Model) (T := F_Model) (N := 13) hx hb hts in_Model t_Model t_Model_ok n_Model hown hE.1 hP hD hS 0 rfl rfl 12 (by decide) (hts _ k_328) (fun _ h9 => h9) rfl (by decide +kernel) rfl rfl (Nat.le_of_ble_eq_true rfl) d_Model_done_428 (fun H locs hP hD hS => ?_)
                  have hP : va_P D classes [(mo, .inr (4, [.int kd, .ref mp, .ref mq, .int (nI n), .ref mr, .ref mw, .ref mt, .ref ml, .ref mk, .ref mv, .int (nI pz), .int (nI (j + 1)), .int (fs1 t0)])), (mp, .inl (cI, 64, .inl fo)), (mq, .inl (cI, 64, .inl fn)), (mr, .inl (cI, 576, .inl fR)), (mw, .inl (cZ, 64, .inl fW)), (mt, .inl (cI, 8, .inl fs1)), (ml, .inl (cI, 4, .inl fl1)), (mk, .inl (cI, 20, .inl fk1)), (mv, .inl (cI, 20, .inl fv1))] H := hP
                  have hD : va_D A [(mo, .inr (4, [.int kd, .ref mp, .ref mq, .int (nI n), .ref mr, .ref mw, .ref mt, .ref ml, .ref mk, .ref mv, .int (nI pz), .int (nI (j + 1)), .int (fs1 t0)])), (mp, .inl (cI, 64, .inl fo)), (mq, .inl (cI, 64, .inl fn)), (mr, .inl (cI, 576, .inl fR)), (mw, .inl (cZ, 64, .inl fW)), (mt, .inl (cI, 8, .inl fs1)), (ml, .inl (cI, 4, .inl fl1)), (mk, .inl (cI, 20, .inl fk1)), (mv, .inl (cI, 20, .inl fv1))] := hD
                  refine lv_iconst (v := 0) hx hb d_Model_done_431 (by decide) ?_
                  refine W.iret hx hb hr (fun t ht hW => ⟨⟨0, ((fs1 t0), (nI (j + 1)), (nI pz), fk1, fv1, fl1, fs1), rfl, ?_, ?_⟩, hS.F ht⟩) hS.2.2 d_Model_done_432
                  · exact ⟨0, nI t0, nI a + 1, by rw [← hTT, ← hT, m_loop_s (o := 0) (S' := (fs1 t0, nI (j + 1), nI pz, fk1, fv1, fa, fl1, fs1, nI t0, nI a + 1)) (by show m_one (rd fo 64 (nI a)) (rd fn 64 (nI a)) kd (0, nI j + 1, nI pz, fk1, fv1, fa, fl1, fs1, nI (t0 + 1), nI a) = _; rw [er, en, nI_1 j]; exact one_17 h8 (by omega)), m_loop_x (by decide)], rfl⟩
                  · exact ⟨by rw [ht]; exact hP.sub [0, 1, 2, 3, 4, 5, 6, 7, 8] rfl, hD.sub [0, 1, 2, 3, 4, 5, 6, 7, 8] (by decide) rfl⟩
              · -- op 18
                refine lv_eqi (y := 18) eo ?_
                refine lv_tableIn (tgt := 433) (off := 361) hx hb d_Model_done_72 (by decide) (by decide) (by decide +kernel) (by decide) ?_
                refine lv_iconst (v := 1) hx hb d_Model_done_433 (by decide) ?_
                refine W.iret hx hb hr (fun t ht hW => ⟨⟨1, (0, (nI (j + 1)), (nI pz), fk1, fv1, fl1, fs1), rfl, ?_, ?_⟩, hS.F ht⟩) hS.2.2 d_Model_done_434
                · exact ⟨1, nI tp, nI a + 1, by rw [← hTT, ← hT, m_loop_s (o := 1) (S' := (0, nI (j + 1), nI pz, fk1, fv1, fa, fl1, fs1, nI tp, nI a + 1)) (by show m_one (rd fo 64 (nI a)) (rd fn 64 (nI a)) kd (0, nI j + 1, nI pz, fk1, fv1, fa, fl1, fs1, nI tp, nI a) = _; rw [er, en, nI_1 j]; exact one_18), m_loop_x (by decide)], rfl⟩
                · exact ⟨by rw [ht]; exact hP.sub [0, 1, 2, 3, 4, 5, 6, 7, 8] rfl, hD.sub [0, 1, 2, 3, 4, 5, 6, 7, 8] (by decide) rfl⟩
        exact key 300 0 0 0 0 _ _ _ _ H locs ls rfl (lv_sub hl [1, 2, 3, 4, 5, 6] rfl) hP hD h0n (by omega) Rch_0 (by omega) hTT.symm hS
      · -- ¬ 4 ≤ (nI q)
        exact absurd (show (4 : Int32) ≤ nI q from nI_le (a := 4) (by omega) (by omega)) h1
    | succ M ih0 =>
      intro q g H locs ls hqM hl hP hD hg hS
      refine lv_iload hx hb d_Model_done_9 (lv_at hl 0 rfl) ?_
      refine lv_iconst (v := 4) hx hb d_Model_done_11 (by decide) ?_
      refine lv_icmp_ge (tgt := 29) hx hb d_Model_done_12 (by decide) (fun h9 => ?_) (fun h9 => ?_)
      · -- 4 ≤ (nI q)
        exact absurd (show nI 4 ≤ nI q from h9) (nI_ge (by omega) (by omega))
      · -- ¬ 4 ≤ (nI q)
        refine lv_aload_n hx hb d_Model_done_15 rfl (lv_at hl 3 rfl) ?_
        refine va_get (D := D) (ci := 4) (v := .ref ml) (C := R_Model) (T := F_Model) (N := 13) hx hb hts in_Model hown hE.1 hP 0 rfl rfl 7 (by decide) (hts _ k_323) (fun _ h9 => h9) rfl d_Model_done_16 ?_
        refine lv_iload hx hb d_Model_done_19 (lv_at hl 0 rfl) ?_
        refine lv_iconst (v := 0) hx hb d_Model_done_21 (by decide) ?_
        refine va_iast hx hb hE.1 hP hD hS 6 0 rfl rfl (vp_in_nI (by omega) (by decide)) d_Model_done_22 (fun H locs hP hD hS => ?_)
        rw [nI_clamp (show q < 2 ^ 31 by omega)] at hP hD
        have hP : va_P D classes [(mo, .inr (4, [.int kd, .ref mp, .ref mq, .int (nI n), .ref mr, .ref mw, .ref mt, .ref ml, .ref mk, .ref mv, .int 0, .int 0, .int 0])), (mp, .inl (cI, 64, .inl fo)), (mq, .inl (cI, 64, .inl fn)), (mr, .inl (cI, 576, .inl fR)), (mw, .inl (cZ, 64, .inl fW)), (mt, .inl (cI, 8, .inl fs)), (ml, .inl (cI, 4, .inl (upd g q 0))), (mk, .inl (cI, 20, .inl fk)), (mv, .inl (cI, 20, .inl fv))] H := hP
        have hD : va_D A [(mo, .inr (4, [.int kd, .ref mp, .ref mq, .int (nI n), .ref mr, .ref mw, .ref mt, .ref ml, .ref mk, .ref mv, .int 0, .int 0, .int 0])), (mp, .inl (cI, 64, .inl fo)), (mq, .inl (cI, 64, .inl fn)), (mr, .inl (cI, 576, .inl fR)), (mw, .inl (cZ, 64, .inl fW)), (mt, .inl (cI, 8, .inl fs)), (ml, .inl (cI, 4, .inl (upd g q 0))), (mk, .inl (cI, 20, .inl fk)), (mv, .inl (cI, 20, .inl fv))] := hD
        refine lv_iinc (v := ((nI q) + 1)) (k := 0) hx hb d_Model_done_23 hl rfl rfl (by decide) rfl (fun ls hl => ?_)
        have hl : lv_has ls 9 [(6, .int ((nI q) + 1)), (5, .int 0), (4, .int 0), (0, .ref mo), (1, .int x), (2, .int y), (3, .int z)] := hl
        refine lv_goto (tgt := 9) hx hb d_Model_done_26 (by decide) ?_
        rw [nI_1] at hl
        exact ih0 (q + 1) _ _ _ _ (by omega) (lv_sub hl [0, 1, 2, 3, 4, 5, 6] rfl) hP hD (fun i hi => by
          unfold upd
          by_cases hij : i = q
          · rw [if_pos hij]
          · rw [if_neg hij]; exact hg i (by omega)) hS
  exact key0 4 0 fl s.heap [] ls rfl (lv_sub hl [0, 1, 2, 3, 4, 5, 6] rfl) hP hD (fun i h => absurd h (Nat.not_lt_zero i)) hS
