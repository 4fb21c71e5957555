set_option maxHeartbeats 40000000 in
set_option maxRecDepth 100000 in
theorem whole_start {p : Program} {e : Env} {s : State} {m : MethodId} {below : List Frame} {meth : Method} {c : Code} (l : Launch) {b L : Nat} {xs : Nat → Int32} (hL : L ≤ 2049) (C0 : lw_At p s m meth c b L xs) : W p l e room_1 s m #[Value.ref b] below meth c s.heap [] 0 0 (lw_Z below #[Value.ref b] s) (entryFrame m ([Value.ref b] : List Value).toArray 4) := by
  obtain ⟨hx, hb, hr, hml, hown, hts0, hX, hbl, hlocks, hgv⟩ := C0
  obtain ⟨D, cI, cZ, tN, tG, hE, hZ0⟩ := law_env hts0 hgv
  have hts : ∀ w ∈ gW, w.before #[Value.ref b] s = true := fun w h => hts0 w (List.mem_filter.mp h).1
  obtain ⟨A, hAd⟩ : ∃ A : Nat → Prop, A = fun q => s.heap.size ≤ q := ⟨_, rfl⟩
  have hZ : ST tN tG A s s.heap := by rw [hAd]; exact hZ0
  have hA : ∀ q : Nat, s.heap.size ≤ q → A q := fun q h => by rw [hAd]; exact h
  have hbA : ¬ A b := by rw [hAd]; exact Nat.not_le.mpr hbl
  have hTX : va_T .int b L (fun j => .int (xs j)) A s s.heap := by
    obtain ⟨scr, g1, g2, g3, g4, g5⟩ := hX
    exact ⟨scr, g1, g2, g3, by rw [g4]; exact Nat.le_refl _, by rw [g4], g5, hbA⟩
  have hP : va_P D classes [] s.heap := fun k q h => by simp at h
  have hD : va_D A [] := ⟨fun i j x y h => by simp at h, fun k q h => by simp at h⟩
  have hS : va_S A s.heap s.heap [] := va_S.rf
  have hl := lv_entry ([.ref b]) (n := 4) (Nat.le_of_ble_eq_true rfl)
  rw [lg_entry_eq]
  generalize (lg_sl ([.ref b]) ++ List.replicate (4 - (lg_sl ([.ref b])).length) Slot.unset).toArray = ls at hl ⊢
  have hl : lv_has ls 4 [(0, .ref b)] := hl
  refine va_new (ci := 0) (fs := [.null, .null, .null]) (C := R_SJ) (T := F_SJ) (N := 3) hx hb hts in_SJ t_SJ t_SJ_ok hown (hts _ k_26) (hts _ k_27) (hts _ k_18) hE.1 hP hD hS hA rfl (fun j hj => by rcases (by omega : j = 0 ∨ j = 1 ∨ j = 2) with rfl | rfl | rfl <;> rfl) (Nat.le_of_ble_eq_true rfl) (Nat.le_of_ble_eq_true rfl) d_Law_law_0 (fun q1 H hP hD hS => ?_)
  have hP : va_P D classes [(q1, .inr (0, [.null, .null, .null]))] H := hP
  have hD : va_D A [(q1, .inr (0, [.null, .null, .null]))] := hD
  refine lv_dup hx hb d_Law_law_3 rfl ?_
  refine lv_aload_n hx hb d_Law_law_4 rfl (lv_at hl 0 rfl) ?_
  refine lv_iconst (v := 0) hx hb d_Law_law_5 (by decide) ?_
  refine vp_callSi (va_Run.run (va_runS (As := [.ref b, .int 0]) (rest := [.ref q1, .ref q1]) ⟨hx, hb, hml, hown, hts⟩ (c_Law_cell l b L xs (by omega)) (cwS 2 hts (gd3 k_307 k_308 k_17 k_309) rfl rfl rfl (by decide +kernel) ⟨Nat.le_of_ble_eq_true rfl, Nat.le_of_ble_eq_true rfl⟩) (rp_preT hTX hS) rfl rfl hl.1 rfl (lv_room (Nat.le_of_ble_eq_true rfl)) d_Law_law_6 ⟨Nat.le_of_ble_eq_true rfl, Nat.le_of_ble_eq_true rfl⟩)) (fun r hq => ?_)
  have hq := hq.symm
  subst hq
  have hPc := hP.sub (ws' := [(q1, .inr (0, [.null, .null, .null]))]) [0] rfl
  have hDc := hD.sub (ws' := [(q1, .inr (0, [.null, .null, .null]))]) [0] (by decide) rfl
  have hFc := va_free (wc := [(q1, .inr (0, [.null, .null, .null]))]) hD hS hA [0] rfl
  refine va_callv (va_runI (As := [.int (q_cell xs L)]) (rest := [.ref q1]) ⟨hx, hb, hml, hown, hts⟩ (c_SJ_init l D cI cZ H.size q1 (q_cell xs L)) (cwI 1 hts (gd k_30) rfl rfl rfl (hts _ k_18) (hts _ k_28) (hts _ k_29) rfl (by decide +kernel) ⟨Nat.le_of_ble_eq_true rfl, Nat.le_of_ble_eq_true rfl⟩) ⟨MY_blind, my_pre hE hPc hDc⟩ rfl rfl hl.1 rfl (lv_room (Nat.le_of_ble_eq_true rfl)) d_Law_law_9 ⟨Nat.le_of_ble_eq_true rfl, Nat.le_of_ble_eq_true rfl⟩) hS (fun q _ h => hFc q h) hFc (fun u t H1 locs ht hvm hw hB hz1 hk1 hS => ?_)
  obtain ⟨hP1, hD1⟩ := hB
  rw [ht] at hP1
  obtain ⟨pr, po, pn, wy, re, wa, mc, ky, vy, gy, ly, sy⟩ := u
  obtain ⟨hP, hD⟩ := va_join (wr := []) (w1 := [(q1, .inr (0, [.ref pr, .ref wy, .ref mc])), (pr, .inr (1, [.int ((q_cell xs L) &&& 3), .int 0, .int (acOf ((q_cell xs L) &&& 3)), .ref po, .ref pn])), (po, .inl (cI, 64, .inl (fun _ => 0))), (pn, .inl (cI, 64, .inl (fun _ => 0))), (wy, .inr (2, [.ref re, .ref wa, .int 0])), (re, .inl (cI, 64, .inl (fun _ => 0))), (wa, .inl (cI, 576, .inl (fun _ => 0))), (mc, .inr (3, [.int 0, .int 0, .int 0, .ref ky, .ref vy, .ref gy, .ref ly, .ref sy, .int 0, .int 0])), (ky, .inl (cI, 20, .inl (fun _ => 0))), (vy, .inl (cI, 20, .inl (fun _ => 0))), (gy, .inl (cI, 3, .inl (fun _ => 0))), (ly, .inl (cI, 4, .inl (fun _ => 0))), (sy, .inl (cI, 8, .inl (fun _ => 0)))]) hP hD [0] [] rfl rfl (by decide) (by decide) hk1 hFc hP1 hD1
  generalize H1 = H at hP hS ⊢
  have hP : va_P D classes [(q1, .inr (0, [.ref pr, .ref wy, .ref mc])), (pr, .inr (1, [.int ((q_cell xs L) &&& 3), .int 0, .int (acOf ((q_cell xs L) &&& 3)), .ref po, .ref pn])), (po, .inl (cI, 64, .inl (fun _ => 0))), (pn, .inl (cI, 64, .inl (fun _ => 0))), (wy, .inr (2, [.ref re, .ref wa, .int 0])), (re, .inl (cI, 64, .inl (fun _ => 0))), (wa, .inl (cI, 576, .inl (fun _ => 0))), (mc, .inr (3, [.int 0, .int 0, .int 0, .ref ky, .ref vy, .ref gy, .ref ly, .ref sy, .int 0, .int 0])), (ky, .inl (cI, 20, .inl (fun _ => 0))), (vy, .inl (cI, 20, .inl (fun _ => 0))), (gy, .inl (cI, 3, .inl (fun _ => 0))), (ly, .inl (cI, 4, .inl (fun _ => 0))), (sy, .inl (cI, 8, .inl (fun _ => 0)))] H := hP
  have hD : va_D A [(q1, .inr (0, [.ref pr, .ref wy, .ref mc])), (pr, .inr (1, [.int ((q_cell xs L) &&& 3), .int 0, .int (acOf ((q_cell xs L) &&& 3)), .ref po, .ref pn])), (po, .inl (cI, 64, .inl (fun _ => 0))), (pn, .inl (cI, 64, .inl (fun _ => 0))), (wy, .inr (2, [.ref re, .ref wa, .int 0])), (re, .inl (cI, 64, .inl (fun _ => 0))), (wa, .inl (cI, 576, .inl (fun _ => 0))), (mc, .inr (3, [.int 0, .int 0, .int 0, .ref ky, .ref vy, .ref gy, .ref ly, .ref sy, .int 0, .int 0])), (ky, .inl (cI, 20, .inl (fun _ => 0))), (vy, .inl (cI, 20, .inl (fun _ => 0))), (gy, .inl (cI, 3, .inl (fun _ => 0))), (ly, .inl (cI, 4, .inl (fun _ => 0))), (sy, .inl (cI, 8, .inl (fun _ => 0)))] := hD
  refine lv_astore_n hx hb d_Law_law_12 rfl hl (by decide) rfl (fun ls hl => ?_)
  have hl : lv_has ls 4 [(1, .ref q1), (0, .ref b)] := hl
  refine va_new (ci := 4) (fs := [.int 0, .null, .null, .int 0, .null, .null, .null, .null, .null, .null, .int 0, .int 0, .int 0]) (C := R_Model) (T := F_Model) (N := 13) hx hb hts in_Model t_Model t_Model_ok hown (hts _ k_310) (hts _ k_311) (hts _ k_22) hE.1 hP hD hS hA rfl (fun j hj => by rcases (by omega : j = 0 ∨ j = 1 ∨ j = 2 ∨ j = 3 ∨ j = 4 ∨ j = 5 ∨ j = 6 ∨ j = 7 ∨ j = 8 ∨ j = 9 ∨ j = 10 ∨ j = 11 ∨ j = 12) with rfl | rfl | rfl | rfl | rfl | rfl | rfl | rfl | rfl | rfl | rfl | rfl | rfl <;> rfl) (Nat.le_of_ble_eq_true rfl) (Nat.le_of_ble_eq_true rfl) d_Law_law_13 (fun q2 H hP hD hS => ?_)
  have hP : va_P D classes [(q1, .inr (0, [.ref pr, .ref wy, .ref mc])), (pr, .inr (1, [.int ((q_cell xs L) &&& 3), .int 0, .int (acOf ((q_cell xs L) &&& 3)), .ref po, .ref pn])), (po, .inl (cI, 64, .inl (fun _ => 0))), (pn, .inl (cI, 64, .inl (fun _ => 0))), (wy, .inr (2, [.ref re, .ref wa, .int 0])), (re, .inl (cI, 64, .inl (fun _ => 0))), (wa, .inl (cI, 576, .inl (fun _ => 0))), (mc, .inr (3, [.int 0, .int 0, .int 0, .ref ky, .ref vy, .ref gy, .ref ly, .ref sy, .int 0, .int 0])), (ky, .inl (cI, 20, .inl (fun _ => 0))), (vy, .inl (cI, 20, .inl (fun _ => 0))), (gy, .inl (cI, 3, .inl (fun _ => 0))), (ly, .inl (cI, 4, .inl (fun _ => 0))), (sy, .inl (cI, 8, .inl (fun _ => 0))), (q2, .inr (4, [.int 0, .null, .null, .int 0, .null, .null, .null, .null, .null, .null, .int 0, .int 0, .int 0]))] H := hP
  have hD : va_D A [(q1, .inr (0, [.ref pr, .ref wy, .ref mc])), (pr, .inr (1, [.int ((q_cell xs L) &&& 3), .int 0, .int (acOf ((q_cell xs L) &&& 3)), .ref po, .ref pn])), (po, .inl (cI, 64, .inl (fun _ => 0))), (pn, .inl (cI, 64, .inl (fun _ => 0))), (wy, .inr (2, [.ref re, .ref wa, .int 0])), (re, .inl (cI, 64, .inl (fun _ => 0))), (wa, .inl (cI, 576, .inl (fun _ => 0))), (mc, .inr (3, [.int 0, .int 0, .int 0, .ref ky, .ref vy, .ref gy, .ref ly, .ref sy, .int 0, .int 0])), (ky, .inl (cI, 20, .inl (fun _ => 0))), (vy, .inl (cI, 20, .inl (fun _ => 0))), (gy, .inl (cI, 3, .inl (fun _ => 0))), (ly, .inl (cI, 4, .inl (fun _ => 0))), (sy, .inl (cI, 8, .inl (fun _ => 0))), (q2, .inr (4, [.int 0, .null, .null, .int 0, .null, .null, .null, .null, .null, .null, .int 0, .int 0, .int 0]))] := hD
  refine lv_dup hx hb d_Law_law_16 rfl ?_
  refine lv_aload_n hx hb d_Law_law_17 rfl (lv_at hl 1 rfl) ?_
  refine lv_iconst (v := 0) hx hb d_Law_law_18 (by decide) ?_
  refine vp_callSi (va_Run.run (va_runS (As := [.ref b, .int 0]) (rest := [.ref q2, .ref q2]) ⟨hx, hb, hml, hown, hts⟩ (c_Law_cell l b L xs (by omega)) (cwS 2 hts (gd3 k_307 k_308 k_17 k_309) rfl rfl rfl (by decide +kernel) ⟨Nat.le_of_ble_eq_true rfl, Nat.le_of_ble_eq_true rfl⟩) (rp_preT hTX hS) rfl rfl hl.1 rfl (lv_room (Nat.le_of_ble_eq_true rfl)) d_Law_law_19 ⟨Nat.le_of_ble_eq_true rfl, Nat.le_of_ble_eq_true rfl⟩)) (fun r hq => ?_)
  have hq := hq.symm
  subst hq
  have hPc := hP.sub (ws' := [(q2, .inr (4, [.int 0, .null, .null, .int 0, .null, .null, .null, .null, .null, .null, .int 0, .int 0, .int 0]))]) [13] rfl
  have hDc := hD.sub (ws' := [(q2, .inr (4, [.int 0, .null, .null, .int 0, .null, .null, .null, .null, .null, .null, .int 0, .int 0, .int 0]))]) [13] (by decide) rfl
  have hFc := va_free (wc := [(q2, .inr (4, [.int 0, .null, .null, .int 0, .null, .null, .null, .null, .null, .null, .int 0, .int 0, .int 0]))]) hD hS hA [13] rfl
  refine va_callv (va_runI (As := [.int (q_cell xs L)]) (rest := [.ref q2]) ⟨hx, hb, hml, hown, hts⟩ (c_Model_init l D cI cZ H.size q2 (q_cell xs L)) (cwI 1 hts (gd k_314) rfl rfl rfl (hts _ k_22) (hts _ k_312) (hts _ k_313) rfl (by decide +kernel) ⟨Nat.le_of_ble_eq_true rfl, Nat.le_of_ble_eq_true rfl⟩) ⟨MY_blind, my_pre hE hPc hDc⟩ rfl rfl hl.1 rfl (lv_room (Nat.le_of_ble_eq_true rfl)) d_Law_law_22 ⟨Nat.le_of_ble_eq_true rfl, Nat.le_of_ble_eq_true rfl⟩) hS (fun q _ h => hFc q h) hFc (fun u t H1 locs ht hvm hw hB hz1 hk1 hS => ?_)
  obtain ⟨hP1, hD1⟩ := hB
  rw [ht] at hP1
  obtain ⟨mp, mq, mr, mw, mt, ml, mk, mv⟩ := u
  obtain ⟨hP, hD⟩ := va_join (wr := [(q1, .inr (0, [.ref pr, .ref wy, .ref mc])), (pr, .inr (1, [.int ((q_cell xs L) &&& 3), .int 0, .int (acOf ((q_cell xs L) &&& 3)), .ref po, .ref pn])), (po, .inl (cI, 64, .inl (fun _ => 0))), (pn, .inl (cI, 64, .inl (fun _ => 0))), (wy, .inr (2, [.ref re, .ref wa, .int 0])), (re, .inl (cI, 64, .inl (fun _ => 0))), (wa, .inl (cI, 576, .inl (fun _ => 0))), (mc, .inr (3, [.int 0, .int 0, .int 0, .ref ky, .ref vy, .ref gy, .ref ly, .ref sy, .int 0, .int 0])), (ky, .inl (cI, 20, .inl (fun _ => 0))), (vy, .inl (cI, 20, .inl (fun _ => 0))), (gy, .inl (cI, 3, .inl (fun _ => 0))), (ly, .inl (cI, 4, .inl (fun _ => 0))), (sy, .inl (cI, 8, .inl (fun _ => 0)))]) (w1 := [(q2, .inr (4, [.int ((q_cell xs L) &&& 3), .ref mp, .ref mq, .int 0, .ref mr, .ref mw, .ref mt, .ref ml, .ref mk, .ref mv, .int 0, .int 0, .int 0])), (mp, .inl (cI, 64, .inl (fun _ => 0))), (mq, .inl (cI, 64, .inl (fun _ => 0))), (mr, .inl (cI, 576, .inl (fun _ => 0))), (mw, .inl (cZ, 64, .inl (fun _ => 0))), (mt, .inl (cI, 8, .inl (fun _ => 0))), (ml, .inl (cI, 4, .inl (fun _ => 0))), (mk, .inl (cI, 20, .inl (fun _ => 0))), (mv, .inl (cI, 20, .inl (fun _ => 0)))]) hP hD [13] [0, 1, 2, 3, 4, 5, 6, 7, 8, 9, 10, 11, 12] rfl rfl (by decide) (by decide) hk1 hFc hP1 hD1
  generalize H1 = H at hP hS ⊢
  have hP : va_P D classes [(q1, .inr (0, [.ref pr, .ref wy, .ref mc])), (pr, .inr (1, [.int ((q_cell xs L) &&& 3), .int 0, .int (acOf ((q_cell xs L) &&& 3)), .ref po, .ref pn])), (po, .inl (cI, 64, .inl (fun _ => 0))), (pn, .inl (cI, 64, .inl (fun _ => 0))), (wy, .inr (2, [.ref re, .ref wa, .int 0])), (re, .inl (cI, 64, .inl (fun _ => 0))), (wa, .inl (cI, 576, .inl (fun _ => 0))), (mc, .inr (3, [.int 0, .int 0, .int 0, .ref ky, .ref vy, .ref gy, .ref ly, .ref sy, .int 0, .int 0])), (ky, .inl (cI, 20, .inl (fun _ => 0))), (vy, .inl (cI, 20, .inl (fun _ => 0))), (gy, .inl (cI, 3, .inl (fun _ => 0))), (ly, .inl (cI, 4, .inl (fun _ => 0))), (sy, .inl (cI, 8, .inl (fun _ => 0))), (q2, .inr (4, [.int ((q_cell xs L) &&& 3), .ref mp, .ref mq, .int 0, .ref mr, .ref mw, .ref mt, .ref ml, .ref mk, .ref mv, .int 0, .int 0, .int 0])), (mp, .inl (cI, 64, .inl (fun _ => 0))), (mq, .inl (cI, 64, .inl (fun _ => 0))), (mr, .inl (cI, 576, .inl (fun _ => 0))), (mw, .inl (cZ, 64, .inl (fun _ => 0))), (mt, .inl (cI, 8, .inl (fun _ => 0))), (ml, .inl (cI, 4, .inl (fun _ => 0))), (mk, .inl (cI, 20, .inl (fun _ => 0))), (mv, .inl (cI, 20, .inl (fun _ => 0)))] H := hP
  have hD : va_D A [(q1, .inr (0, [.ref pr, .ref wy, .ref mc])), (pr, .inr (1, [.int ((q_cell xs L) &&& 3), .int 0, .int (acOf ((q_cell xs L) &&& 3)), .ref po, .ref pn])), (po, .inl (cI, 64, .inl (fun _ => 0))), (pn, .inl (cI, 64, .inl (fun _ => 0))), (wy, .inr (2, [.ref re, .ref wa, .int 0])), (re, .inl (cI, 64, .inl (fun _ => 0))), (wa, .inl (cI, 576, .inl (fun _ => 0))), (mc, .inr (3, [.int 0, .int 0, .int 0, .ref ky, .ref vy, .ref gy, .ref ly, .ref sy, .int 0, .int 0])), (ky, .inl (cI, 20, .inl (fun _ => 0))), (vy, .inl (cI, 20, .inl (fun _ => 0))), (gy, .inl (cI, 3, .inl (fun _ => 0))), (ly, .inl (cI, 4, .inl (fun _ => 0))), (sy, .inl (cI, 8, .inl (fun _ => 0))), (q2, .inr (4, [.int ((q_cell xs L) &&& 3), .ref mp, .ref mq, .int 0, .ref mr, .ref mw, .ref mt, .ref ml, .ref mk, .ref mv, .int 0, .int 0, .int 0])), (mp, .inl (cI, 64, .inl (fun _ => 0))), (mq, .inl (cI, 64, .inl (fun _ => 0))), (mr, .inl (cI, 576, .inl (fun _ => 0))), (mw, .inl (cZ, 64, .inl (fun _ => 0))), (mt, .inl (cI, 8, .inl (fun _ => 0))), (ml, .inl (cI, 4, .inl (fun _ => 0))), (mk, .inl (cI, 20, .inl (fun _ => 0))), (mv, .inl (cI, 20, .inl (fun _ => 0)))] := hD
  refine lv_astore_n hx hb d_Law_law_25 rfl hl (by decide) rfl (fun ls hl => ?_)
  have hl : lv_has ls 4 [(2, .ref q2), (1, .ref q1), (0, .ref b)] := hl
  refine lv_iconst (v := 1) hx hb d_Law_law_26 (by decide) ?_
  refine lv_istore_n hx hb d_Law_law_27 rfl hl (by decide) rfl (fun ls hl => ?_)
  have hl : lv_has ls 4 [(3, .int 1), (2, .ref q2), (1, .ref q1), (0, .ref b)] := hl
  obtain ⟨kd, hkd⟩ : ∃ kd, kd = q_cell xs L &&& 3 := ⟨_, rfl⟩
  rw [← hkd] at hP hD
  have hk : kd = 0 ∨ kd = 1 ∨ kd = 2 ∨ kd = 3 := by rw [hkd]; exact and3 _
  have key : ∀ (N : Nat) (j n pp : Nat) (fo fn fk fv fs fr fw fa fl fR fW gl : Nat → Int32) (res stp wc hgt ap : Int32) (H : Heap) (locs : List Loc) (ls : Array Slot), L ≤ j + N → j ≤ L + 4 → lv_has ls 4 [(3, .int (nI j)), (2, .ref q2), (1, .ref q1), (0, .ref b)] → va_P D classes [(q1, .inr (0, [.ref pr, .ref wy, .ref mc])), (pr, .inr (1, [.int kd, .int (nI n), .int (acOf kd), .ref po, .ref pn])), (po, .inl (cI, 64, .inl fo)), (pn, .inl (cI, 64, .inl fn)), (wy, .inr (2, [.ref re, .ref wa, .int wc])), (re, .inl (cI, 64, .inl fr)), (wa, .inl (cI, 576, .inl fw)), (mc, .inr (3, [.int res, .int stp, .int (nI pp), .ref ky, .ref vy, .ref gy, .ref ly, .ref sy, .int hgt, .int ap])), (ky, .inl (cI, 20, .inl fk)), (vy, .inl (cI, 20, .inl fv)), (gy, .inl (cI, 3, .inl fa)), (ly, .inl (cI, 4, .inl fl)), (sy, .inl (cI, 8, .inl fs)), (q2, .inr (4, [.int kd, .ref mp, .ref mq, .int (nI n), .ref mr, .ref mw, .ref mt, .ref ml, .ref mk, .ref mv, .int (nI pp), .int stp, .int res])), (mp, .inl (cI, 64, .inl fo)), (mq, .inl (cI, 64, .inl fn)), (mr, .inl (cI, 576, .inl fR)), (mw, .inl (cZ, 64, .inl fW)), (mt, .inl (cI, 8, .inl fs)), (ml, .inl (cI, 4, .inl gl)), (mk, .inl (cI, 20, .inl fk)), (mv, .inl (cI, 20, .inl fv))] H → va_D A [(q1, .inr (0, [.ref pr, .ref wy, .ref mc])), (pr, .inr (1, [.int kd, .int (nI n), .int (acOf kd), .ref po, .ref pn])), (po, .inl (cI, 64, .inl fo)), (pn, .inl (cI, 64, .inl fn)), (wy, .inr (2, [.ref re, .ref wa, .int wc])), (re, .inl (cI, 64, .inl fr)), (wa, .inl (cI, 576, .inl fw)), (mc, .inr (3, [.int res, .int stp, .int (nI pp), .ref ky, .ref vy, .ref gy, .ref ly, .ref sy, .int hgt, .int ap])), (ky, .inl (cI, 20, .inl fk)), (vy, .inl (cI, 20, .inl fv)), (gy, .inl (cI, 3, .inl fa)), (ly, .inl (cI, 4, .inl fl)), (sy, .inl (cI, 8, .inl fs)), (q2, .inr (4, [.int kd, .ref mp, .ref mq, .int (nI n), .ref mr, .ref mw, .ref mt, .ref ml, .ref mk, .ref mv, .int (nI pp), .int stp, .int res])), (mp, .inl (cI, 64, .inl fo)), (mq, .inl (cI, 64, .inl fn)), (mr, .inl (cI, 576, .inl fR)), (mw, .inl (cZ, 64, .inl fW)), (mt, .inl (cI, 8, .inl fs)), (ml, .inl (cI, 4, .inl gl)), (mk, .inl (cI, 20, .inl fk)), (mv, .inl (cI, 20, .inl fv))] → n ≤ 64 → pp ≤ 20 → va_S A s.heap H locs → W p l e room_1 s m #[Value.ref b] below meth c H locs 22 1677 (lw_Z below #[Value.ref b] s) (F0 m 28 ls []) := by
    intro N
    induction N with
    | zero =>
      intro j n pp fo fn fk fv fs fr fw fa fl fR fW gl res stp wc hgt ap H locs ls hjL hj4 hl hP hD hn hp hS
      refine lv_iload_n hx hb d_Law_law_28 rfl (lv_at hl 0 rfl) ?_
      refine lv_aload_n hx hb d_Law_law_29 rfl (lv_at hl 3 rfl) ?_
      refine va_tlen (v := (nI L)) hx hb hTX hS rfl d_Law_law_30 ?_
      refine lv_iconst (v := 4) hx hb d_Law_law_31 (by decide) ?_
      refine lv_isub hx hb d_Law_law_32 ?_
      refine lv_icmp_gt (tgt := 313) hx hb d_Law_law_33 (by decide) (fun h3 => ?_) (fun h3 => ?_)
      · -- ((nI L) - 4) < (nI j)
        refine lv_iconst (v := 1) hx hb d_Law_law_313 (by decide) ?_
        refine va_forget (fun q hq => by have hq2 := hS.2.2 q hq; rw [hAd] at hq2; exact hq2) ?_
        exact lw_ret hx hb hr hlocks d_Law_law_314
      · -- ¬ ((nI L) - 4) < (nI j)
        exact absurd (law_in hL (by omega) h3) (by omega)
    | succ N ih =>
      intro j n pp fo fn fk fv fs fr fw fa fl fR fW gl res stp wc hgt ap H locs ls hjL hj4 hl hP hD hn hp hS
      refine lv_iload_n hx hb d_Law_law_28 rfl (lv_at hl 0 rfl) ?_
      refine lv_aload_n hx hb d_Law_law_29 rfl (lv_at hl 3 rfl) ?_
      refine va_tlen (v := (nI L)) hx hb hTX hS rfl d_Law_law_30 ?_
      refine lv_iconst (v := 4) hx hb d_Law_law_31 (by decide) ?_
      refine lv_isub hx hb d_Law_law_32 ?_
      refine lv_icmp_gt (tgt := 313) hx hb d_Law_law_33 (by decide) (fun h4 => ?_) (fun h4 => ?_)
      · -- ((nI L) - 4) < (nI j)
        refine lv_iconst (v := 1) hx hb d_Law_law_313 (by decide) ?_
        refine va_forget (fun q hq => by have hq2 := hS.2.2 q hq; rw [hAd] at hq2; exact hq2) ?_
        exact lw_ret hx hb hr hlocks d_Law_law_314
      · -- ¬ ((nI L) - 4) < (nI j)
        have hjL4 : j + 4 ≤ L := law_in hL (by omega) h4
        refine lv_aload_n hx hb d_Law_law_36 rfl (lv_at hl 3 rfl) ?_
        refine lv_iload_n hx hb d_Law_law_37 rfl (lv_at hl 0 rfl) ?_
        refine va_ti (v := .int (xs j)) hx hb hTX hS (vp_in_nI (by omega) (by omega)) (by show Value.int (xs (nI j).toNatClampNeg) = _; rw [nI_clamp (show j < 2 ^ 31 by omega)]) d_Law_law_38 ?_
        refine lv_bipush (v := 15) hx hb d_Law_law_39 (by decide) ?_
        refine lv_iand hx hb d_Law_law_41 ?_
        refine lv_topi (fun oo eoo => ?_)
        rcases (by omega : (Int32.toInt oo < 0 ∨ 9 < Int32.toInt oo) ∨ Int32.toInt oo = 0 ∨ Int32.toInt oo = 1 ∨ Int32.toInt oo = 2 ∨ Int32.toInt oo = 3 ∨ Int32.toInt oo = 4 ∨ Int32.toInt oo = 5 ∨ Int32.toInt oo = 6 ∨ Int32.toInt oo = 7 ∨ Int32.toInt oo = 8 ∨ Int32.toInt oo = 9) with h5 | h5 | h5 | h5 | h5 | h5 | h5 | h5 | h5 | h5 | h5
        · -- default
          refine lv_tableOut (tgt := 307) hx hb d_Law_law_42 h5 (by decide) ?_
          refine lv_iinc (v := ((nI j) + 4)) (k := 0) hx hb d_Law_law_307 hl rfl rfl (by decide) rfl (fun ls hl => ?_)
          have hl : lv_has ls 4 [(3, .int ((nI j) + 4)), (2, .ref q2), (1, .ref q1), (0, .ref b)] := hl
          refine lv_goto (tgt := 28) hx hb d_Law_law_310 (by decide) ?_
          rw [show nI j + 4 = nI (j + 4) from nI_add j 4] at hl
          exact ih (j + 4) n pp _ _ _ _ _ _ _ _ _ _ _ _ _ _ _ _ _ _ _ _ (by omega) (by omega) (lv_sub hl [0, 1, 2, 3] rfl) (hP.sub [0, 1, 2, 3, 4, 5, 6, 7, 8, 9, 10, 11, 12, 13, 14, 15, 16, 17, 18, 19, 20, 21] rfl) (hD.sub [0, 1, 2, 3, 4, 5, 6, 7, 8, 9, 10, 11, 12, 13, 14, 15, 16, 17, 18, 19, 20, 21] (by decide) rfl) (by omega) (by omega) hS
        · -- case 0
          have h5 : oo = 0 := Int32.toInt_inj.mp (by rw [h5]; decide)
          subst h5
          refine lv_tableIn (tgt := 96) (off := 54) hx hb d_Law_law_42 (by decide) (by decide) (by decide +kernel) (by decide) ?_
          by_cases hc64 : n < 64
          · -- n < 64
            refine lv_aload_n hx hb d_Law_law_96 rfl (lv_at hl 2 rfl) ?_
            refine lv_aload_n hx hb d_Law_law_97 rfl (lv_at hl 3 rfl) ?_
            refine lv_iload_n hx hb d_Law_law_98 rfl (lv_at hl 0 rfl) ?_
            refine lv_iconst (v := 1) hx hb d_Law_law_99 (by decide) ?_
            refine lv_iadd hx hb d_Law_law_100 ?_
            refine lv_eqi (y := (nI (j + 1))) (nI_1 j) ?_
            refine va_ti (v := .int (xs (j + 1))) hx hb hTX hS (vp_in_nI (by omega) (by omega)) (by show Value.int (xs (nI (j + 1)).toNatClampNeg) = _; rw [nI_clamp (show (j + 1) < 2 ^ 31 by omega)]) d_Law_law_101 ?_
            refine lv_aload_n hx hb d_Law_law_102 rfl (lv_at hl 3 rfl) ?_
            refine lv_iload_n hx hb d_Law_law_103 rfl (lv_at hl 0 rfl) ?_
            refine lv_iconst (v := 2) hx hb d_Law_law_104 (by decide) ?_
            refine lv_iadd hx hb d_Law_law_105 ?_
            refine lv_eqi (y := (nI (j + 2))) (nI_add j 2) ?_
            refine va_ti (v := .int (xs (j + 2))) hx hb hTX hS (vp_in_nI (by omega) (by omega)) (by show Value.int (xs (nI (j + 2)).toNatClampNeg) = _; rw [nI_clamp (show (j + 2) < 2 ^ 31 by omega)]) d_Law_law_106 ?_
            have hPc := hP.sub (ws' := [(q1, .inr (0, [.ref pr, .ref wy, .ref mc])), (pr, .inr (1, [.int kd, .int (nI n), .int (acOf kd), .ref po, .ref pn])), (po, .inl (cI, 64, .inl fo)), (pn, .inl (cI, 64, .inl fn))]) [0, 1, 2, 3] rfl
            have hDc := hD.sub (ws' := [(q1, .inr (0, [.ref pr, .ref wy, .ref mc])), (pr, .inr (1, [.int kd, .int (nI n), .int (acOf kd), .ref po, .ref pn])), (po, .inl (cI, 64, .inl fo)), (pn, .inl (cI, 64, .inl fn))]) [0, 1, 2, 3] (by decide) rfl
            have hFc := va_free (wc := [(q1, .inr (0, [.ref pr, .ref wy, .ref mc])), (pr, .inr (1, [.int kd, .int (nI n), .int (acOf kd), .ref po, .ref pn])), (po, .inl (cI, 64, .inl fo)), (pn, .inl (cI, 64, .inl fn))]) hD hS hA [0, 1, 2, 3] rfl
            refine va_calli (va_runV (As := [.int (xs (j + 1)), .int (xs (j + 2))]) (rest := []) ⟨hx, hb, hml, hown, hts⟩ (c_SJ_code l D cI cZ tN tG H.size q1 wy mc pr po pn kd (nI n) (acOf kd) fo fn (xs (j + 1)) (xs (j + 2))) (cwV 2 hts (gd4 k_129 k_130 k_131 k_18 k_132) rfl rfl rfl (by decide +kernel) ⟨Nat.le_of_ble_eq_true rfl, Nat.le_of_ble_eq_true rfl⟩) ⟨MZ_blind, va_recv (q0 := 0) (ci := 0) hE.1 hP rfl rfl, mz_pre hE hZ hS hPc hDc hFc⟩ rfl rfl hl.1 rfl (lv_room (Nat.le_of_ble_eq_true rfl)) d_Law_law_107 ⟨Nat.le_of_ble_eq_true rfl, Nat.le_of_ble_eq_true rfl⟩) hS (fun q _ h => hFc q h) hFc (fun r u t H1 locs ht hvm hw hB hz1 hk1 hS => ?_)
            obtain ⟨hP1, hD1⟩ := hB
            rw [ht] at hP1
            obtain ⟨hr1, hw1⟩ := hw
            have hr2 : r = nI n := by rw [hr1, app_lt hc64]; show (if (1 : Int32) = 0 then (-3 : Int32) else nI (n + 1) - 1) = nI n; rw [if_neg (by decide), nI_pred]
            have hw2 : u = ((upd fo n (xs (j + 1))), (upd fn n (xs (j + 2))), (nI (n + 1))) := by rw [hw1, app_lt hc64]
            clear hr1 hw1
            subst hr2
            subst hw2
            obtain ⟨hP, hD⟩ := va_join (wr := [(wy, .inr (2, [.ref re, .ref wa, .int wc])), (re, .inl (cI, 64, .inl fr)), (wa, .inl (cI, 576, .inl fw)), (mc, .inr (3, [.int res, .int stp, .int (nI pp), .ref ky, .ref vy, .ref gy, .ref ly, .ref sy, .int hgt, .int ap])), (ky, .inl (cI, 20, .inl fk)), (vy, .inl (cI, 20, .inl fv)), (gy, .inl (cI, 3, .inl fa)), (ly, .inl (cI, 4, .inl fl)), (sy, .inl (cI, 8, .inl fs)), (q2, .inr (4, [.int kd, .ref mp, .ref mq, .int (nI n), .ref mr, .ref mw, .ref mt, .ref ml, .ref mk, .ref mv, .int (nI pp), .int stp, .int res])), (mp, .inl (cI, 64, .inl fo)), (mq, .inl (cI, 64, .inl fn)), (mr, .inl (cI, 576, .inl fR)), (mw, .inl (cZ, 64, .inl fW)), (mt, .inl (cI, 8, .inl fs)), (ml, .inl (cI, 4, .inl gl)), (mk, .inl (cI, 20, .inl fk)), (mv, .inl (cI, 20, .inl fv))]) (w1 := [(q1, .inr (0, [.ref pr, .ref wy, .ref mc])), (pr, .inr (1, [.int kd, .int (nI (n + 1)), .int (acOf kd), .ref po, .ref pn])), (po, .inl (cI, 64, .inl (upd fo n (xs (j + 1))))), (pn, .inl (cI, 64, .inl (upd fn n (xs (j + 2)))))]) hP hD [0, 1, 2, 3] [4, 5, 6, 7, 8, 9, 10, 11, 12, 13, 14, 15, 16, 17, 18, 19, 20, 21] rfl rfl (by decide) (by decide) hk1 hFc hP1 hD1
            generalize H1 = H at hP hS ⊢
            have hP : va_P D classes [(wy, .inr (2, [.ref re, .ref wa, .int wc])), (re, .inl (cI, 64, .inl fr)), (wa, .inl (cI, 576, .inl fw)), (mc, .inr (3, [.int res, .int stp, .int (nI pp), .ref ky, .ref vy, .ref gy, .ref ly, .ref sy, .int hgt, .int ap])), (ky, .inl (cI, 20, .inl fk)), (vy, .inl (cI, 20, .inl fv)), (gy, .inl (cI, 3, .inl fa)), (ly, .inl (cI, 4, .inl fl)), (sy, .inl (cI, 8, .inl fs)), (q2, .inr (4, [.int kd, .ref mp, .ref mq, .int (nI n), .ref mr, .ref mw, .ref mt, .ref ml, .ref mk, .ref mv, .int (nI pp), .int stp, .int res])), (mp, .inl (cI, 64, .inl fo)), (mq, .inl (cI, 64, .inl fn)), (mr, .inl (cI, 576, .inl fR)), (mw, .inl (cZ, 64, .inl fW)), (mt, .inl (cI, 8, .inl fs)), (ml, .inl (cI, 4, .inl gl)), (mk, .inl (cI, 20, .inl fk)), (mv, .inl (cI, 20, .inl fv)), (q1, .inr (0, [.ref pr, .ref wy, .ref mc])), (pr, .inr (1, [.int kd, .int (nI (n + 1)), .int (acOf kd), .ref po, .ref pn])), (po, .inl (cI, 64, .inl (upd fo n (xs (j + 1))))), (pn, .inl (cI, 64, .inl (upd fn n (xs (j + 2)))))] H := hP
            have hD : va_D A [(wy, .inr (2, [.ref re, .ref wa, .int wc])), (re, .inl (cI, 64, .inl fr)), (wa, .inl (cI, 576, .inl fw)), (mc, .inr (3, [.int res, .int stp, .int (nI pp), .ref ky, .ref vy, .ref gy, .ref ly, .ref sy, .int hgt, .int ap])), (ky, .inl (cI, 20, .inl fk)), (vy, .inl (cI, 20, .inl fv)), (gy, .inl (cI, 3, .inl fa)), (ly, .inl (cI, 4, .inl fl)), (sy, .inl (cI, 8, .inl fs)), (q2, .inr (4, [.int kd, .ref mp, .ref mq, .int (nI n), .ref mr, .ref mw, .ref mt, .ref ml, .ref mk, .ref mv, .int (nI pp), .int stp, .int res])), (mp, .inl (cI, 64, .inl fo)), (mq, .inl (cI, 64, .inl fn)), (mr, .inl (cI, 576, .inl fR)), (mw, .inl (cZ, 64, .inl fW)), (mt, .inl (cI, 8, .inl fs)), (ml, .inl (cI, 4, .inl gl)), (mk, .inl (cI, 20, .inl fk)), (mv, .inl (cI, 20, .inl fv)), (q1, .inr (0, [.ref pr, .ref wy, .ref mc])), (pr, .inr (1, [.int kd, .int (nI (n + 1)), .int (acOf kd), .ref po, .ref pn])), (po, .inl (cI, 64, .inl (upd fo n (xs (j + 1))))), (pn, .inl (cI, 64, .inl (upd fn n (xs (j + 2)))))] := hD
            refine lv_aload_n hx hb d_Law_law_110 rfl (lv_at hl 1 rfl) ?_
            refine lv_aload_n hx hb d_Law_law_111 rfl (lv_at hl 3 rfl) ?_
            refine lv_iload_n hx hb d_Law_law_112 rfl (lv_at hl 0 rfl) ?_
            refine lv_iconst (v := 1) hx hb d_Law_law_113 (by decide) ?_
            refine lv_iadd hx hb d_Law_law_114 ?_
            refine lv_eqi (y := (nI (j + 1))) (nI_1 j) ?_
            refine va_ti (v := .int (xs (j + 1))) hx hb hTX hS (vp_in_nI (by omega) (by omega)) (by show Value.int (xs (nI (j + 1)).toNatClampNeg) = _; rw [nI_clamp (show (j + 1) < 2 ^ 31 by omega)]) d_Law_law_115 ?_
            refine lv_aload_n hx hb d_Law_law_116 rfl (lv_at hl 3 rfl) ?_
            refine lv_iload_n hx hb d_Law_law_117 rfl (lv_at hl 0 rfl) ?_
            refine lv_iconst (v := 2) hx hb d_Law_law_118 (by decide) ?_
            refine lv_iadd hx hb d_Law_law_119 ?_
            refine lv_eqi (y := (nI (j + 2))) (nI_add j 2) ?_
            refine va_ti (v := .int (xs (j + 2))) hx hb hTX hS (vp_in_nI (by omega) (by omega)) (by show Value.int (xs (nI (j + 2)).toNatClampNeg) = _; rw [nI_clamp (show (j + 2) < 2 ^ 31 by omega)]) d_Law_law_120 ?_
            have hPc := hP.sub (ws' := [(q2, .inr (4, [.int kd, .ref mp, .ref mq, .int (nI n), .ref mr, .ref mw, .ref mt, .ref ml, .ref mk, .ref mv, .int (nI pp), .int stp, .int res])), (mp, .inl (cI, 64, .inl fo)), (mq, .inl (cI, 64, .inl fn)), (mr, .inl (cI, 576, .inl fR)), (mw, .inl (cZ, 64, .inl fW)), (mt, .inl (cI, 8, .inl fs)), (ml, .inl (cI, 4, .inl gl)), (mk, .inl (cI, 20, .inl fk)), (mv, .inl (cI, 20, .inl fv))]) [9, 10, 11, 12, 13, 14, 15, 16, 17] rfl
            have hDc := hD.sub (ws' := [(q2, .inr (4, [.int kd, .ref mp, .ref mq, .int (nI n), .ref mr, .ref mw, .ref mt, .ref ml, .ref mk, .ref mv, .int (nI pp), .int stp, .int res])), (mp, .inl (cI, 64, .inl fo)), (mq, .inl (cI, 64, .inl fn)), (mr, .inl (cI, 576, .inl fR)), (mw, .inl (cZ, 64, .inl fW)), (mt, .inl (cI, 8, .inl fs)), (ml, .inl (cI, 4, .inl gl)), (mk, .inl (cI, 20, .inl fk)), (mv, .inl (cI, 20, .inl fv))]) [9, 10, 11, 12, 13, 14, 15, 16, 17] (by decide) rfl
            have hFc := va_free (wc := [(q2, .inr (4, [.int kd, .ref mp, .ref mq, .int (nI n), .ref mr, .ref mw, .ref mt, .ref ml, .ref mk, .ref mv, .int (nI pp), .int stp, .int res])), (mp, .inl (cI, 64, .inl fo)), (mq, .inl (cI, 64, .inl fn)), (mr, .inl (cI, 576, .inl fR)), (mw, .inl (cZ, 64, .inl fW)), (mt, .inl (cI, 8, .inl fs)), (ml, .inl (cI, 4, .inl gl)), (mk, .inl (cI, 20, .inl fk)), (mv, .inl (cI, 20, .inl fv))]) hD hS hA [9, 10, 11, 12, 13, 14, 15, 16, 17] rfl
            refine va_calli (va_runV (As := [.int (xs (j + 1)), .int (xs (j + 2))]) (rest := [.int (nI n)]) ⟨hx, hb, hml, hown, hts⟩ (c_Model_code l D cI cZ H.size q2 mp mq mr mw mt ml mk mv kd n fo fn fR fW fs gl fk fv (nI pp) stp res (xs (j + 1)) (xs (j + 2)) hn) (cwV 2 hts (gd4 k_357 k_358 k_359 k_22 k_360) rfl rfl rfl (by decide +kernel) ⟨Nat.le_of_ble_eq_true rfl, Nat.le_of_ble_eq_true rfl⟩) ⟨MY_blind, va_recv (q0 := 9) (ci := 4) hE.1 hP rfl rfl, my_pre hE hPc hDc⟩ rfl rfl hl.1 rfl (lv_room (Nat.le_of_ble_eq_true rfl)) d_Law_law_121 ⟨Nat.le_of_ble_eq_true rfl, Nat.le_of_ble_eq_true rfl⟩) hS (fun q _ h => hFc q h) hFc (fun r u t H1 locs ht hvm hw hB hz1 hk1 hS => ?_)
            obtain ⟨hP1, hD1⟩ := hB
            rw [ht] at hP1
            obtain ⟨-, hr1, hw1⟩ := hw.resolve_right (fun q => absurd q.1 (by omega))
            subst hr1
            subst hw1
            obtain ⟨hP, hD⟩ := va_join (wr := [(wy, .inr (2, [.ref re, .ref wa, .int wc])), (re, .inl (cI, 64, .inl fr)), (wa, .inl (cI, 576, .inl fw)), (mc, .inr (3, [.int res, .int stp, .int (nI pp), .ref ky, .ref vy, .ref gy, .ref ly, .ref sy, .int hgt, .int ap])), (ky, .inl (cI, 20, .inl fk)), (vy, .inl (cI, 20, .inl fv)), (gy, .inl (cI, 3, .inl fa)), (ly, .inl (cI, 4, .inl fl)), (sy, .inl (cI, 8, .inl fs)), (q1, .inr (0, [.ref pr, .ref wy, .ref mc])), (pr, .inr (1, [.int kd, .int (nI (n + 1)), .int (acOf kd), .ref po, .ref pn])), (po, .inl (cI, 64, .inl (upd fo n (xs (j + 1))))), (pn, .inl (cI, 64, .inl (upd fn n (xs (j + 2)))))]) (w1 := [(q2, .inr (4, [.int kd, .ref mp, .ref mq, .int (nI (n + 1)), .ref mr, .ref mw, .ref mt, .ref ml, .ref mk, .ref mv, .int (nI pp), .int stp, .int res])), (mp, .inl (cI, 64, .inl (upd fo n (xs (j + 1))))), (mq, .inl (cI, 64, .inl (upd fn n (xs (j + 2))))), (mr, .inl (cI, 576, .inl fR)), (mw, .inl (cZ, 64, .inl fW)), (mt, .inl (cI, 8, .inl fs)), (ml, .inl (cI, 4, .inl gl)), (mk, .inl (cI, 20, .inl fk)), (mv, .inl (cI, 20, .inl fv))]) hP hD [9, 10, 11, 12, 13, 14, 15, 16, 17] [0, 1, 2, 3, 4, 5, 6, 7, 8, 18, 19, 20, 21] rfl rfl (by decide) (by decide) hk1 hFc hP1 hD1
            generalize H1 = H at hP hS ⊢
            have hP : va_P D classes [(wy, .inr (2, [.ref re, .ref wa, .int wc])), (re, .inl (cI, 64, .inl fr)), (wa, .inl (cI, 576, .inl fw)), (mc, .inr (3, [.int res, .int stp, .int (nI pp), .ref ky, .ref vy, .ref gy, .ref ly, .ref sy, .int hgt, .int ap])), (ky, .inl (cI, 20, .inl fk)), (vy, .inl (cI, 20, .inl fv)), (gy, .inl (cI, 3, .inl fa)), (ly, .inl (cI, 4, .inl fl)), (sy, .inl (cI, 8, .inl fs)), (q1, .inr (0, [.ref pr, .ref wy, .ref mc])), (pr, .inr (1, [.int kd, .int (nI (n + 1)), .int (acOf kd), .ref po, .ref pn])), (po, .inl (cI, 64, .inl (upd fo n (xs (j + 1))))), (pn, .inl (cI, 64, .inl (upd fn n (xs (j + 2))))), (q2, .inr (4, [.int kd, .ref mp, .ref mq, .int (nI (n + 1)), .ref mr, .ref mw, .ref mt, .ref ml, .ref mk, .ref mv, .int (nI pp), .int stp, .int res])), (mp, .inl (cI, 64, .inl (upd fo n (xs (j + 1))))), (mq, .inl (cI, 64, .inl (upd fn n (xs (j + 2))))), (mr, .inl (cI, 576, .inl fR)), (mw, .inl (cZ, 64, .inl fW)), (mt, .inl (cI, 8, .inl fs)), (ml, .inl (cI, 4, .inl gl)), (mk, .inl (cI, 20, .inl fk)), (mv, .inl (cI, 20, .inl fv))] H := hP
            have hD : va_D A [(wy, .inr (2, [.ref re, .ref wa, .int wc])), (re, .inl (cI, 64, .inl fr)), (wa, .inl (cI, 576, .inl fw)), (mc, .inr (3, [.int res, .int stp, .int (nI pp), .ref ky, .ref vy, .ref gy, .ref ly, .ref sy, .int hgt, .int ap])), (ky, .inl (cI, 20, .inl fk)), (vy, .inl (cI, 20, .inl fv)), (gy, .inl (cI, 3, .inl fa)), (ly, .inl (cI, 4, .inl fl)), (sy, .inl (cI, 8, .inl fs)), (q1, .inr (0, [.ref pr, .ref wy, .ref mc])), (pr, .inr (1, [.int kd, .int (nI (n + 1)), .int (acOf kd), .ref po, .ref pn])), (po, .inl (cI, 64, .inl (upd fo n (xs (j + 1))))), (pn, .inl (cI, 64, .inl (upd fn n (xs (j + 2))))), (q2, .inr (4, [.int kd, .ref mp, .ref mq, .int (nI (n + 1)), .ref mr, .ref mw, .ref mt, .ref ml, .ref mk, .ref mv, .int (nI pp), .int stp, .int res])), (mp, .inl (cI, 64, .inl (upd fo n (xs (j + 1))))), (mq, .inl (cI, 64, .inl (upd fn n (xs (j + 2))))), (mr, .inl (cI, 576, .inl fR)), (mw, .inl (cZ, 64, .inl fW)), (mt, .inl (cI, 8, .inl fs)), (ml, .inl (cI, 4, .inl gl)), (mk, .inl (cI, 20, .inl fk)), (mv, .inl (cI, 20, .inl fv))] := hD
            refine lv_icmp_eq (tgt := 307) hx hb d_Law_law_124 (by decide) (fun h6 => ?_) (fun h6 => ?_)
            · -- (nI n) = (nI n)
              refine lv_iinc (v := ((nI j) + 4)) (k := 0) hx hb d_Law_law_307 hl rfl rfl (by decide) rfl (fun ls hl => ?_)
              have hl : lv_has ls 4 [(3, .int ((nI j) + 4)), (2, .ref q2), (1, .ref q1), (0, .ref b)] := hl
              refine lv_goto (tgt := 28) hx hb d_Law_law_310 (by decide) ?_
              rw [show nI j + 4 = nI (j + 4) from nI_add j 4] at hl
              exact ih (j + 4) (n + 1) pp _ _ _ _ _ _ _ _ _ _ _ _ _ _ _ _ _ _ _ _ (by omega) (by omega) (lv_sub hl [0, 1, 2, 3] rfl) (hP.sub [9, 10, 11, 12, 0, 1, 2, 3, 4, 5, 6, 7, 8, 13, 14, 15, 16, 17, 18, 19, 20, 21] rfl) (hD.sub [9, 10, 11, 12, 0, 1, 2, 3, 4, 5, 6, 7, 8, 13, 14, 15, 16, 17, 18, 19, 20, 21] (by decide) rfl) (by omega) (by omega) hS
            · -- ¬ (nI n) = (nI n)
              exact absurd (rfl) h6
          · -- n = 64
            have h64 : n = 64 := by omega
            subst h64
            refine lv_aload_n hx hb d_Law_law_96 rfl (lv_at hl 2 rfl) ?_
            refine lv_aload_n hx hb d_Law_law_97 rfl (lv_at hl 3 rfl) ?_
            refine lv_iload_n hx hb d_Law_law_98 rfl (lv_at hl 0 rfl) ?_
            refine lv_iconst (v := 1) hx hb d_Law_law_99 (by decide) ?_
            refine lv_iadd hx hb d_Law_law_100 ?_
            refine lv_eqi (y := (nI (j + 1))) (nI_1 j) ?_
            refine va_ti (v := .int (xs (j + 1))) hx hb hTX hS (vp_in_nI (by omega) (by omega)) (by show Value.int (xs (nI (j + 1)).toNatClampNeg) = _; rw [nI_clamp (show (j + 1) < 2 ^ 31 by omega)]) d_Law_law_101 ?_
            refine lv_aload_n hx hb d_Law_law_102 rfl (lv_at hl 3 rfl) ?_
            refine lv_iload_n hx hb d_Law_law_103 rfl (lv_at hl 0 rfl) ?_
            refine lv_iconst (v := 2) hx hb d_Law_law_104 (by decide) ?_
            refine lv_iadd hx hb d_Law_law_105 ?_
            refine lv_eqi (y := (nI (j + 2))) (nI_add j 2) ?_
            refine va_ti (v := .int (xs (j + 2))) hx hb hTX hS (vp_in_nI (by omega) (by omega)) (by show Value.int (xs (nI (j + 2)).toNatClampNeg) = _; rw [nI_clamp (show (j + 2) < 2 ^ 31 by omega)]) d_Law_law_106 ?_
            have hPc := hP.sub (ws' := [(q1, .inr (0, [.ref pr, .ref wy, .ref mc])), (pr, .inr (1, [.int kd, .int (nI 64), .int (acOf kd), .ref po, .ref pn])), (po, .inl (cI, 64, .inl fo)), (pn, .inl (cI, 64, .inl fn))]) [0, 1, 2, 3] rfl
            have hDc := hD.sub (ws' := [(q1, .inr (0, [.ref pr, .ref wy, .ref mc])), (pr, .inr (1, [.int kd, .int (nI 64), .int (acOf kd), .ref po, .ref pn])), (po, .inl (cI, 64, .inl fo)), (pn, .inl (cI, 64, .inl fn))]) [0, 1, 2, 3] (by decide) rfl
            have hFc := va_free (wc := [(q1, .inr (0, [.ref pr, .ref wy, .ref mc])), (pr, .inr (1, [.int kd, .int (nI 64), .int (acOf kd), .ref po, .ref pn])), (po, .inl (cI, 64, .inl fo)), (pn, .inl (cI, 64, .inl fn))]) hD hS hA [0, 1, 2, 3] rfl
            refine va_calli (va_runV (As := [.int (xs (j + 1)), .int (xs (j + 2))]) (rest := []) ⟨hx, hb, hml, hown, hts⟩ (c_SJ_code l D cI cZ tN tG H.size q1 wy mc pr po pn kd (nI 64) (acOf kd) fo fn (xs (j + 1)) (xs (j + 2))) (cwV 2 hts (gd4 k_129 k_130 k_131 k_18 k_132) rfl rfl rfl (by decide +kernel) ⟨Nat.le_of_ble_eq_true rfl, Nat.le_of_ble_eq_true rfl⟩) ⟨MZ_blind, va_recv (q0 := 0) (ci := 0) hE.1 hP rfl rfl, mz_pre hE hZ hS hPc hDc hFc⟩ rfl rfl hl.1 rfl (lv_room (Nat.le_of_ble_eq_true rfl)) d_Law_law_107 ⟨Nat.le_of_ble_eq_true rfl, Nat.le_of_ble_eq_true rfl⟩) hS (fun q _ h => hFc q h) hFc (fun r u t H1 locs ht hvm hw hB hz1 hk1 hS => ?_)
            obtain ⟨hP1, hD1⟩ := hB
            rw [ht] at hP1
            obtain ⟨hr1, hw1⟩ := hw
            have hr2 : r = -3 := by rw [hr1]; rfl
            have hw2 : u = (fo, fn, (nI 64)) := by rw [hw1]; rfl
            clear hr1 hw1
            subst hr2
            subst hw2
            obtain ⟨hP, hD⟩ := va_join (wr := [(wy, .inr (2, [.ref re, .ref wa, .int wc])), (re, .inl (cI, 64, .inl fr)), (wa, .inl (cI, 576, .inl fw)), (mc, .inr (3, [.int res, .int stp, .int (nI pp), .ref ky, .ref vy, .ref gy, .ref ly, .ref sy, .int hgt, .int ap])), (ky, .inl (cI, 20, .inl fk)), (vy, .inl (cI, 20, .inl fv)), (gy, .inl (cI, 3, .inl fa)), (ly, .inl (cI, 4, .inl fl)), (sy, .inl (cI, 8, .inl fs)), (q2, .inr (4, [.int kd, .ref mp, .ref mq, .int (nI 64), .ref mr, .ref mw, .ref mt, .ref ml, .ref mk, .ref mv, .int (nI pp), .int stp, .int res])), (mp, .inl (cI, 64, .inl fo)), (mq, .inl (cI, 64, .inl fn)), (mr, .inl (cI, 576, .inl fR)), (mw, .inl (cZ, 64, .inl fW)), (mt, .inl (cI, 8, .inl fs)), (ml, .inl (cI, 4, .inl gl)), (mk, .inl (cI, 20, .inl fk)), (mv, .inl (cI, 20, .inl fv))]) (w1 := [(q1, .inr (0, [.ref pr, .ref wy, .ref mc])), (pr, .inr (1, [.int kd, .int (nI 64), .int (acOf kd), .ref po, .ref pn])), (po, .inl (cI, 64, .inl fo)), (pn, .inl (cI, 64, .inl fn))]) hP hD [0, 1, 2, 3] [4, 5, 6, 7, 8, 9, 10, 11, 12, 13, 14, 15, 16, 17, 18, 19, 20, 21] rfl rfl (by decide) (by decide) hk1 hFc hP1 hD1
            generalize H1 = H at hP hS ⊢
            have hP : va_P D classes [(wy, .inr (2, [.ref re, .ref wa, .int wc])), (re, .inl (cI, 64, .inl fr)), (wa, .inl (cI, 576, .inl fw)), (mc, .inr (3, [.int res, .int stp, .int (nI pp), .ref ky, .ref vy, .ref gy, .ref ly, .ref sy, .int hgt, .int ap])), (ky, .inl (cI, 20, .inl fk)), (vy, .inl (cI, 20, .inl fv)), (gy, .inl (cI, 3, .inl fa)), (ly, .inl (cI, 4, .inl fl)), (sy, .inl (cI, 8, .inl fs)), (q2, .inr (4, [.int kd, .ref mp, .ref mq, .int (nI 64), .ref mr, .ref mw, .ref mt, .ref ml, .ref mk, .ref mv, .int (nI pp), .int stp, .int res])), (mp, .inl (cI, 64, .inl fo)), (mq, .inl (cI, 64, .inl fn)), (mr, .inl (cI, 576, .inl fR)), (mw, .inl (cZ, 64, .inl fW)), (mt, .inl (cI, 8, .inl fs)), (ml, .inl (cI, 4, .inl gl)), (mk, .inl (cI, 20, .inl fk)), (mv, .inl (cI, 20, .inl fv)), (q1, .inr (0, [.ref pr, .ref wy, .ref mc])), (pr, .inr (1, [.int kd, .int (nI 64), .int (acOf kd), .ref po, .ref pn])), (po, .inl (cI, 64, .inl fo)), (pn, .inl (cI, 64, .inl fn))] H := hP
            have hD : va_D A [(wy, .inr (2, [.ref re, .ref wa, .int wc])), (re, .inl (cI, 64, .inl fr)), (wa, .inl (cI, 576, .inl fw)), (mc, .inr (3, [.int res, .int stp, .int (nI pp), .ref ky, .ref vy, .ref gy, .ref ly, .ref sy, .int hgt, .int ap])), (ky, .inl (cI, 20, .inl fk)), (vy, .inl (cI, 20, .inl fv)), (gy, .inl (cI, 3, .inl fa)), (ly, .inl (cI, 4, .inl fl)), (sy, .inl (cI, 8, .inl fs)), (q2, .inr (4, [.int kd, .ref mp, .ref mq, .int (nI 64), .ref mr, .ref mw, .ref mt, .ref ml, .ref mk, .ref mv, .int (nI pp), .int stp, .int res])), (mp, .inl (cI, 64, .inl fo)), (mq, .inl (cI, 64, .inl fn)), (mr, .inl (cI, 576, .inl fR)), (mw, .inl (cZ, 64, .inl fW)), (mt, .inl (cI, 8, .inl fs)), (ml, .inl (cI, 4, .inl gl)), (mk, .inl (cI, 20, .inl fk)), (mv, .inl (cI, 20, .inl fv)), (q1, .inr (0, [.ref pr, .ref wy, .ref mc])), (pr, .inr (1, [.int kd, .int (nI 64), .int (acOf kd), .ref po, .ref pn])), (po, .inl (cI, 64, .inl fo)), (pn, .inl (cI, 64, .inl fn))] := hD
            refine lv_aload_n hx hb d_Law_law_110 rfl (lv_at hl 1 rfl) ?_
            refine lv_aload_n hx hb d_Law_law_111 rfl (lv_at hl 3 rfl) ?_
            refine lv_iload_n hx hb d_Law_law_112 rfl (lv_at hl 0 rfl) ?_
            refine lv_iconst (v := 1) hx hb d_Law_law_113 (by decide) ?_
            refine lv_iadd hx hb d_Law_law_114 ?_
            refine lv_eqi (y := (nI (j + 1))) (nI_1 j) ?_
            refine va_ti (v := .int (xs (j + 1))) hx hb hTX hS (vp_in_nI (by omega) (by omega)) (by show Value.int (xs (nI (j + 1)).toNatClampNeg) = _; rw [nI_clamp (show (j + 1) < 2 ^ 31 by omega)]) d_Law_law_115 ?_
            refine lv_aload_n hx hb d_Law_law_116 rfl (lv_at hl 3 rfl) ?_
            refine lv_iload_n hx hb d_Law_law_117 rfl (lv_at hl 0 rfl) ?_
            refine lv_iconst (v := 2) hx hb d_Law_law_118 (by decide) ?_
            refine lv_iadd hx hb d_Law_law_119 ?_
            refine lv_eqi (y := (nI (j + 2))) (nI_add j 2) ?_
            refine va_ti (v := .int (xs (j + 2))) hx hb hTX hS (vp_in_nI (by omega) (by omega)) (by show Value.int (xs (nI (j + 2)).toNatClampNeg) = _; rw [nI_clamp (show (j + 2) < 2 ^ 31 by omega)]) d_Law_law_120 ?_
            have hPc := hP.sub (ws' := [(q2, .inr (4, [.int kd, .ref mp, .ref mq, .int (nI 64), .ref mr, .ref mw, .ref mt, .ref ml, .ref mk, .ref mv, .int (nI pp), .int stp, .int res])), (mp, .inl (cI, 64, .inl fo)), (mq, .inl (cI, 64, .inl fn)), (mr, .inl (cI, 576, .inl fR)), (mw, .inl (cZ, 64, .inl fW)), (mt, .inl (cI, 8, .inl fs)), (ml, .inl (cI, 4, .inl gl)), (mk, .inl (cI, 20, .inl fk)), (mv, .inl (cI, 20, .inl fv))]) [9, 10, 11, 12, 13, 14, 15, 16, 17] rfl
            have hDc := hD.sub (ws' := [(q2, .inr (4, [.int kd, .ref mp, .ref mq, .int (nI 64), .ref mr, .ref mw, .ref mt, .ref ml, .ref mk, .ref mv, .int (nI pp), .int stp, .int res])), (mp, .inl (cI, 64, .inl fo)), (mq, .inl (cI, 64, .inl fn)), (mr, .inl (cI, 576, .inl fR)), (mw, .inl (cZ, 64, .inl fW)), (mt, .inl (cI, 8, .inl fs)), (ml, .inl (cI, 4, .inl gl)), (mk, .inl (cI, 20, .inl fk)), (mv, .inl (cI, 20, .inl fv))]) [9, 10, 11, 12, 13, 14, 15, 16, 17] (by decide) rfl
            have hFc := va_free (wc := [(q2, .inr (4, [.int kd, .ref mp, .ref mq, .int (nI 64), .ref mr, .ref mw, .ref mt, .ref ml, .ref mk, .ref mv, .int (nI pp), .int stp, .int res])), (mp, .inl (cI, 64, .inl fo)), (mq, .inl (cI, 64, .inl fn)), (mr, .inl (cI, 576, .inl fR)), (mw, .inl (cZ, 64, .inl fW)), (mt, .inl (cI, 8, .inl fs)), (ml, .inl (cI, 4, .inl gl)), (mk, .inl (cI, 20, .inl fk)), (mv, .inl (cI, 20, .inl fv))]) hD hS hA [9, 10, 11, 12, 13, 14, 15, 16, 17] rfl
            refine va_calli (va_runV (As := [.int (xs (j + 1)), .int (xs (j + 2))]) (rest := [.int (-3)]) ⟨hx, hb, hml, hown, hts⟩ (c_Model_code l D cI cZ H.size q2 mp mq mr mw mt ml mk mv kd 64 fo fn fR fW fs gl fk fv (nI pp) stp res (xs (j + 1)) (xs (j + 2)) hn) (cwV 2 hts (gd4 k_357 k_358 k_359 k_22 k_360) rfl rfl rfl (by decide +kernel) ⟨Nat.le_of_ble_eq_true rfl, Nat.le_of_ble_eq_true rfl⟩) ⟨MY_blind, va_recv (q0 := 9) (ci := 4) hE.1 hP rfl rfl, my_pre hE hPc hDc⟩ rfl rfl hl.1 rfl (lv_room (Nat.le_of_ble_eq_true rfl)) d_Law_law_121 ⟨Nat.le_of_ble_eq_true rfl, Nat.le_of_ble_eq_true rfl⟩) hS (fun q _ h => hFc q h) hFc (fun r u t H1 locs ht hvm hw hB hz1 hk1 hS => ?_)
            obtain ⟨hP1, hD1⟩ := hB
            rw [ht] at hP1
            obtain ⟨-, hr1, hw1⟩ := hw.resolve_left (fun q => absurd q.1 (by omega))
            subst hr1
            subst hw1
            obtain ⟨hP, hD⟩ := va_join (wr := [(wy, .inr (2, [.ref re, .ref wa, .int wc])), (re, .inl (cI, 64, .inl fr)), (wa, .inl (cI, 576, .inl fw)), (mc, .inr (3, [.int res, .int stp, .int (nI pp), .ref ky, .ref vy, .ref gy, .ref ly, .ref sy, .int hgt, .int ap])), (ky, .inl (cI, 20, .inl fk)), (vy, .inl (cI, 20, .inl fv)), (gy, .inl (cI, 3, .inl fa)), (ly, .inl (cI, 4, .inl fl)), (sy, .inl (cI, 8, .inl fs)), (q1, .inr (0, [.ref pr, .ref wy, .ref mc])), (pr, .inr (1, [.int kd, .int (nI 64), .int (acOf kd), .ref po, .ref pn])), (po, .inl (cI, 64, .inl fo)), (pn, .inl (cI, 64, .inl fn))]) (w1 := [(q2, .inr (4, [.int kd, .ref mp, .ref mq, .int (nI 64), .ref mr, .ref mw, .ref mt, .ref ml, .ref mk, .ref mv, .int (nI pp), .int stp, .int res])), (mp, .inl (cI, 64, .inl fo)), (mq, .inl (cI, 64, .inl fn)), (mr, .inl (cI, 576, .inl fR)), (mw, .inl (cZ, 64, .inl fW)), (mt, .inl (cI, 8, .inl fs)), (ml, .inl (cI, 4, .inl gl)), (mk, .inl (cI, 20, .inl fk)), (mv, .inl (cI, 20, .inl fv))]) hP hD [9, 10, 11, 12, 13, 14, 15, 16, 17] [0, 1, 2, 3, 4, 5, 6, 7, 8, 18, 19, 20, 21] rfl rfl (by decide) (by decide) hk1 hFc hP1 hD1
            generalize H1 = H at hP hS ⊢
            have hP : va_P D classes [(wy, .inr (2, [.ref re, .ref wa, .int wc])), (re, .inl (cI, 64, .inl fr)), (wa, .inl (cI, 576, .inl fw)), (mc, .inr (3, [.int res, .int stp, .int (nI pp), .ref ky, .ref vy, .ref gy, .ref ly, .ref sy, .int hgt, .int ap])), (ky, .inl (cI, 20, .inl fk)), (vy, .inl (cI, 20, .inl fv)), (gy, .inl (cI, 3, .inl fa)), (ly, .inl (cI, 4, .inl fl)), (sy, .inl (cI, 8, .inl fs)), (q1, .inr (0, [.ref pr, .ref wy, .ref mc])), (pr, .inr (1, [.int kd, .int (nI 64), .int (acOf kd), .ref po, .ref pn])), (po, .inl (cI, 64, .inl fo)), (pn, .inl (cI, 64, .inl fn)), (q2, .inr (4, [.int kd, .ref mp, .ref mq, .int (nI 64), .ref mr, .ref mw, .ref mt, .ref ml, .ref mk, .ref mv, .int (nI pp), .int stp, .int res])), (mp, .inl (cI, 64, .inl fo)), (mq, .inl (cI, 64, .inl fn)), (mr, .inl (cI, 576, .inl fR)), (mw, .inl (cZ, 64, .inl fW)), (mt, .inl (cI, 8, .inl fs)), (ml, .inl (cI, 4, .inl gl)), (mk, .inl (cI, 20, .inl fk)), (mv, .inl (cI, 20, .inl fv))] H := hP
            have hD : va_D A [(wy, .inr (2, [.ref re, .ref wa, .int wc])), (re, .inl (cI, 64, .inl fr)), (wa, .inl (cI, 576, .inl fw)), (mc, .inr (3, [.int res, .int stp, .int (nI pp), .ref ky, .ref vy, .ref gy, .ref ly, .ref sy, .int hgt, .int ap])), (ky, .inl (cI, 20, .inl fk)), (vy, .inl (cI, 20, .inl fv)), (gy, .inl (cI, 3, .inl fa)), (ly, .inl (cI, 4, .inl fl)), (sy, .inl (cI, 8, .inl fs)), (q1, .inr (0, [.ref pr, .ref wy, .ref mc])), (pr, .inr (1, [.int kd, .int (nI 64), .int (acOf kd), .ref po, .ref pn])), (po, .inl (cI, 64, .inl fo)), (pn, .inl (cI, 64, .inl fn)), (q2, .inr (4, [.int kd, .ref mp, .ref mq, .int (nI 64), .ref mr, .ref mw, .ref mt, .ref ml, .ref mk, .ref mv, .int (nI pp), .int stp, .int res])), (mp, .inl (cI, 64, .inl fo)), (mq, .inl (cI, 64, .inl fn)), (mr, .inl (cI, 576, .inl fR)), (mw, .inl (cZ, 64, .inl fW)), (mt, .inl (cI, 8, .inl fs)), (ml, .inl (cI, 4, .inl gl)), (mk, .inl (cI, 20, .inl fk)), (mv, .inl (cI, 20, .inl fv))] := hD
            refine lv_icmp_eq (tgt := 307) hx hb d_Law_law_124 (by decide) (fun h7 => ?_) (fun h7 => ?_)
            · -- (-3) = (-3)
              refine lv_iinc (v := ((nI j) + 4)) (k := 0) hx hb d_Law_law_307 hl rfl rfl (by decide) rfl (fun ls hl => ?_)
              have hl : lv_has ls 4 [(3, .int ((nI j) + 4)), (2, .ref q2), (1, .ref q1), (0, .ref b)] := hl
              refine lv_goto (tgt := 28) hx hb d_Law_law_310 (by decide) ?_
              rw [show nI j + 4 = nI (j + 4) from nI_add j 4] at hl
              exact ih (j + 4) 64 pp _ _ _ _ _ _ _ _ _ _ _ _ _ _ _ _ _ _ _ _ (by omega) (by omega) (lv_sub hl [0, 1, 2, 3] rfl) (hP.sub [9, 10, 11, 12, 0, 1, 2, 3, 4, 5, 6, 7, 8, 13, 14, 15, 16, 17, 18, 19, 20, 21] rfl) (hD.sub [9, 10, 11, 12, 0, 1, 2, 3, 4, 5, 6, 7, 8, 13, 14, 15, 16, 17, 18, 19, 20, 21] (by decide) rfl) (by omega) (by omega) hS
            · -- ¬ (-3) = (-3)
              exact absurd (rfl) h7
        · -- case 1
          have h5 : oo = 1 := Int32.toInt_inj.mp (by rw [h5]; decide)
          subst h5
          refine lv_tableIn (tgt := 129) (off := 87) hx hb d_Law_law_42 (by decide) (by decide) (by decide +kernel) (by decide) ?_
          refine lv_aload_n hx hb d_Law_law_129 rfl (lv_at hl 2 rfl) ?_
          have hPc := hP.sub (ws' := [(q1, .inr (0, [.ref pr, .ref wy, .ref mc])), (pr, .inr (1, [.int kd, .int (nI n), .int (acOf kd), .ref po, .ref pn])), (po, .inl (cI, 64, .inl fo)), (pn, .inl (cI, 64, .inl fn))]) [0, 1, 2, 3] rfl
          have hDc := hD.sub (ws' := [(q1, .inr (0, [.ref pr, .ref wy, .ref mc])), (pr, .inr (1, [.int kd, .int (nI n), .int (acOf kd), .ref po, .ref pn])), (po, .inl (cI, 64, .inl fo)), (pn, .inl (cI, 64, .inl fn))]) [0, 1, 2, 3] (by decide) rfl
          have hFc := va_free (wc := [(q1, .inr (0, [.ref pr, .ref wy, .ref mc])), (pr, .inr (1, [.int kd, .int (nI n), .int (acOf kd), .ref po, .ref pn])), (po, .inl (cI, 64, .inl fo)), (pn, .inl (cI, 64, .inl fn))]) hD hS hA [0, 1, 2, 3] rfl
          refine va_calli (va_runV (As := []) (rest := []) ⟨hx, hb, hml, hown, hts⟩ (c_SJ_clear l D cI cZ tN tG H.size q1 wy mc pr po pn kd (nI n) (acOf kd) fo fn) (cwV 0 hts (gd4 k_140 k_141 k_142 k_18 k_143) rfl rfl rfl (by decide +kernel) ⟨Nat.le_of_ble_eq_true rfl, Nat.le_of_ble_eq_true rfl⟩) ⟨MZ_blind, va_recv (q0 := 0) (ci := 0) hE.1 hP rfl rfl, mz_pre hE hZ hS hPc hDc hFc⟩ rfl rfl hl.1 rfl (lv_room (Nat.le_of_ble_eq_true rfl)) d_Law_law_130 ⟨Nat.le_of_ble_eq_true rfl, Nat.le_of_ble_eq_true rfl⟩) hS (fun q _ h => hFc q h) hFc (fun r u t H1 locs ht hvm hw hB hz1 hk1 hS => ?_)
          obtain ⟨hP1, hD1⟩ := hB
          rw [ht] at hP1
          subst hw
          obtain ⟨hP, hD⟩ := va_join (wr := [(wy, .inr (2, [.ref re, .ref wa, .int wc])), (re, .inl (cI, 64, .inl fr)), (wa, .inl (cI, 576, .inl fw)), (mc, .inr (3, [.int res, .int stp, .int (nI pp), .ref ky, .ref vy, .ref gy, .ref ly, .ref sy, .int hgt, .int ap])), (ky, .inl (cI, 20, .inl fk)), (vy, .inl (cI, 20, .inl fv)), (gy, .inl (cI, 3, .inl fa)), (ly, .inl (cI, 4, .inl fl)), (sy, .inl (cI, 8, .inl fs)), (q2, .inr (4, [.int kd, .ref mp, .ref mq, .int (nI n), .ref mr, .ref mw, .ref mt, .ref ml, .ref mk, .ref mv, .int (nI pp), .int stp, .int res])), (mp, .inl (cI, 64, .inl fo)), (mq, .inl (cI, 64, .inl fn)), (mr, .inl (cI, 576, .inl fR)), (mw, .inl (cZ, 64, .inl fW)), (mt, .inl (cI, 8, .inl fs)), (ml, .inl (cI, 4, .inl gl)), (mk, .inl (cI, 20, .inl fk)), (mv, .inl (cI, 20, .inl fv))]) (w1 := [(q1, .inr (0, [.ref pr, .ref wy, .ref mc])), (pr, .inr (1, [.int kd, .int 0, .int (acOf kd), .ref po, .ref pn])), (po, .inl (cI, 64, .inl fo)), (pn, .inl (cI, 64, .inl fn))]) hP hD [0, 1, 2, 3] [4, 5, 6, 7, 8, 9, 10, 11, 12, 13, 14, 15, 16, 17, 18, 19, 20, 21] rfl rfl (by decide) (by decide) hk1 hFc hP1 hD1
          generalize H1 = H at hP hS ⊢
          have hP : va_P D classes [(wy, .inr (2, [.ref re, .ref wa, .int wc])), (re, .inl (cI, 64, .inl fr)), (wa, .inl (cI, 576, .inl fw)), (mc, .inr (3, [.int res, .int stp, .int (nI pp), .ref ky, .ref vy, .ref gy, .ref ly, .ref sy, .int hgt, .int ap])), (ky, .inl (cI, 20, .inl fk)), (vy, .inl (cI, 20, .inl fv)), (gy, .inl (cI, 3, .inl fa)), (ly, .inl (cI, 4, .inl fl)), (sy, .inl (cI, 8, .inl fs)), (q2, .inr (4, [.int kd, .ref mp, .ref mq, .int (nI n), .ref mr, .ref mw, .ref mt, .ref ml, .ref mk, .ref mv, .int (nI pp), .int stp, .int res])), (mp, .inl (cI, 64, .inl fo)), (mq, .inl (cI, 64, .inl fn)), (mr, .inl (cI, 576, .inl fR)), (mw, .inl (cZ, 64, .inl fW)), (mt, .inl (cI, 8, .inl fs)), (ml, .inl (cI, 4, .inl gl)), (mk, .inl (cI, 20, .inl fk)), (mv, .inl (cI, 20, .inl fv)), (q1, .inr (0, [.ref pr, .ref wy, .ref mc])), (pr, .inr (1, [.int kd, .int 0, .int (acOf kd), .ref po, .ref pn])), (po, .inl (cI, 64, .inl fo)), (pn, .inl (cI, 64, .inl fn))] H := hP
          have hD : va_D A [(wy, .inr (2, [.ref re, .ref wa, .int wc])), (re, .inl (cI, 64, .inl fr)), (wa, .inl (cI, 576, .inl fw)), (mc, .inr (3, [.int res, .int stp, .int (nI pp), .ref ky, .ref vy, .ref gy, .ref ly, .ref sy, .int hgt, .int ap])), (ky, .inl (cI, 20, .inl fk)), (vy, .inl (cI, 20, .inl fv)), (gy, .inl (cI, 3, .inl fa)), (ly, .inl (cI, 4, .inl fl)), (sy, .inl (cI, 8, .inl fs)), (q2, .inr (4, [.int kd, .ref mp, .ref mq, .int (nI n), .ref mr, .ref mw, .ref mt, .ref ml, .ref mk, .ref mv, .int (nI pp), .int stp, .int res])), (mp, .inl (cI, 64, .inl fo)), (mq, .inl (cI, 64, .inl fn)), (mr, .inl (cI, 576, .inl fR)), (mw, .inl (cZ, 64, .inl fW)), (mt, .inl (cI, 8, .inl fs)), (ml, .inl (cI, 4, .inl gl)), (mk, .inl (cI, 20, .inl fk)), (mv, .inl (cI, 20, .inl fv)), (q1, .inr (0, [.ref pr, .ref wy, .ref mc])), (pr, .inr (1, [.int kd, .int 0, .int (acOf kd), .ref po, .ref pn])), (po, .inl (cI, 64, .inl fo)), (pn, .inl (cI, 64, .inl fn))] := hD
          refine lv_aload_n hx hb d_Law_law_133 rfl (lv_at hl 1 rfl) ?_
          have hPc := hP.sub (ws' := [(q2, .inr (4, [.int kd, .ref mp, .ref mq, .int (nI n), .ref mr, .ref mw, .ref mt, .ref ml, .ref mk, .ref mv, .int (nI pp), .int stp, .int res])), (mp, .inl (cI, 64, .inl fo)), (mq, .inl (cI, 64, .inl fn)), (mr, .inl (cI, 576, .inl fR)), (mw, .inl (cZ, 64, .inl fW)), (mt, .inl (cI, 8, .inl fs)), (ml, .inl (cI, 4, .inl gl)), (mk, .inl (cI, 20, .inl fk)), (mv, .inl (cI, 20, .inl fv))]) [9, 10, 11, 12, 13, 14, 15, 16, 17] rfl
          have hDc := hD.sub (ws' := [(q2, .inr (4, [.int kd, .ref mp, .ref mq, .int (nI n), .ref mr, .ref mw, .ref mt, .ref ml, .ref mk, .ref mv, .int (nI pp), .int stp, .int res])), (mp, .inl (cI, 64, .inl fo)), (mq, .inl (cI, 64, .inl fn)), (mr, .inl (cI, 576, .inl fR)), (mw, .inl (cZ, 64, .inl fW)), (mt, .inl (cI, 8, .inl fs)), (ml, .inl (cI, 4, .inl gl)), (mk, .inl (cI, 20, .inl fk)), (mv, .inl (cI, 20, .inl fv))]) [9, 10, 11, 12, 13, 14, 15, 16, 17] (by decide) rfl
          have hFc := va_free (wc := [(q2, .inr (4, [.int kd, .ref mp, .ref mq, .int (nI n), .ref mr, .ref mw, .ref mt, .ref ml, .ref mk, .ref mv, .int (nI pp), .int stp, .int res])), (mp, .inl (cI, 64, .inl fo)), (mq, .inl (cI, 64, .inl fn)), (mr, .inl (cI, 576, .inl fR)), (mw, .inl (cZ, 64, .inl fW)), (mt, .inl (cI, 8, .inl fs)), (ml, .inl (cI, 4, .inl gl)), (mk, .inl (cI, 20, .inl fk)), (mv, .inl (cI, 20, .inl fv))]) hD hS hA [9, 10, 11, 12, 13, 14, 15, 16, 17] rfl
          refine va_calli (va_runV (As := []) (rest := [.int (nI n)]) ⟨hx, hb, hml, hown, hts⟩ (c_Model_clear l D cI cZ H.size q2 mp mq mr mw mt ml mk mv kd n fo fn fR fW fs gl fk fv (nI pp) stp res) (cwV 0 hts (gd4 k_361 k_362 k_363 k_22 k_364) rfl rfl rfl (by decide +kernel) ⟨Nat.le_of_ble_eq_true rfl, Nat.le_of_ble_eq_true rfl⟩) ⟨MY_blind, va_recv (q0 := 9) (ci := 4) hE.1 hP rfl rfl, my_pre hE hPc hDc⟩ rfl rfl hl.1 rfl (lv_room (Nat.le_of_ble_eq_true rfl)) d_Law_law_134 ⟨Nat.le_of_ble_eq_true rfl, Nat.le_of_ble_eq_true rfl⟩) hS (fun q _ h => hFc q h) hFc (fun r u t H1 locs ht hvm hw hB hz1 hk1 hS => ?_)
          obtain ⟨hP1, hD1⟩ := hB
          rw [ht] at hP1
          subst hw
          obtain ⟨hP, hD⟩ := va_join (wr := [(wy, .inr (2, [.ref re, .ref wa, .int wc])), (re, .inl (cI, 64, .inl fr)), (wa, .inl (cI, 576, .inl fw)), (mc, .inr (3, [.int res, .int stp, .int (nI pp), .ref ky, .ref vy, .ref gy, .ref ly, .ref sy, .int hgt, .int ap])), (ky, .inl (cI, 20, .inl fk)), (vy, .inl (cI, 20, .inl fv)), (gy, .inl (cI, 3, .inl fa)), (ly, .inl (cI, 4, .inl fl)), (sy, .inl (cI, 8, .inl fs)), (q1, .inr (0, [.ref pr, .ref wy, .ref mc])), (pr, .inr (1, [.int kd, .int 0, .int (acOf kd), .ref po, .ref pn])), (po, .inl (cI, 64, .inl fo)), (pn, .inl (cI, 64, .inl fn))]) (w1 := [(q2, .inr (4, [.int kd, .ref mp, .ref mq, .int 0, .ref mr, .ref mw, .ref mt, .ref ml, .ref mk, .ref mv, .int (nI pp), .int stp, .int res])), (mp, .inl (cI, 64, .inl fo)), (mq, .inl (cI, 64, .inl fn)), (mr, .inl (cI, 576, .inl fR)), (mw, .inl (cZ, 64, .inl fW)), (mt, .inl (cI, 8, .inl fs)), (ml, .inl (cI, 4, .inl gl)), (mk, .inl (cI, 20, .inl fk)), (mv, .inl (cI, 20, .inl fv))]) hP hD [9, 10, 11, 12, 13, 14, 15, 16, 17] [0, 1, 2, 3, 4, 5, 6, 7, 8, 18, 19, 20, 21] rfl rfl (by decide) (by decide) hk1 hFc hP1 hD1
          generalize H1 = H at hP hS ⊢
          have hP : va_P D classes [(wy, .inr (2, [.ref re, .ref wa, .int wc])), (re, .inl (cI, 64, .inl fr)), (wa, .inl (cI, 576, .inl fw)), (mc, .inr (3, [.int res, .int stp, .int (nI pp), .ref ky, .ref vy, .ref gy, .ref ly, .ref sy, .int hgt, .int ap])), (ky, .inl (cI, 20, .inl fk)), (vy, .inl (cI, 20, .inl fv)), (gy, .inl (cI, 3, .inl fa)), (ly, .inl (cI, 4, .inl fl)), (sy, .inl (cI, 8, .inl fs)), (q1, .inr (0, [.ref pr, .ref wy, .ref mc])), (pr, .inr (1, [.int kd, .int 0, .int (acOf kd), .ref po, .ref pn])), (po, .inl (cI, 64, .inl fo)), (pn, .inl (cI, 64, .inl fn)), (q2, .inr (4, [.int kd, .ref mp, .ref mq, .int 0, .ref mr, .ref mw, .ref mt, .ref ml, .ref mk, .ref mv, .int (nI pp), .int stp, .int res])), (mp, .inl (cI, 64, .inl fo)), (mq, .inl (cI, 64, .inl fn)), (mr, .inl (cI, 576, .inl fR)), (mw, .inl (cZ, 64, .inl fW)), (mt, .inl (cI, 8, .inl fs)), (ml, .inl (cI, 4, .inl gl)), (mk, .inl (cI, 20, .inl fk)), (mv, .inl (cI, 20, .inl fv))] H := hP
          have hD : va_D A [(wy, .inr (2, [.ref re, .ref wa, .int wc])), (re, .inl (cI, 64, .inl fr)), (wa, .inl (cI, 576, .inl fw)), (mc, .inr (3, [.int res, .int stp, .int (nI pp), .ref ky, .ref vy, .ref gy, .ref ly, .ref sy, .int hgt, .int ap])), (ky, .inl (cI, 20, .inl fk)), (vy, .inl (cI, 20, .inl fv)), (gy, .inl (cI, 3, .inl fa)), (ly, .inl (cI, 4, .inl fl)), (sy, .inl (cI, 8, .inl fs)), (q1, .inr (0, [.ref pr, .ref wy, .ref mc])), (pr, .inr (1, [.int kd, .int 0, .int (acOf kd), .ref po, .ref pn])), (po, .inl (cI, 64, .inl fo)), (pn, .inl (cI, 64, .inl fn)), (q2, .inr (4, [.int kd, .ref mp, .ref mq, .int 0, .ref mr, .ref mw, .ref mt, .ref ml, .ref mk, .ref mv, .int (nI pp), .int stp, .int res])), (mp, .inl (cI, 64, .inl fo)), (mq, .inl (cI, 64, .inl fn)), (mr, .inl (cI, 576, .inl fR)), (mw, .inl (cZ, 64, .inl fW)), (mt, .inl (cI, 8, .inl fs)), (ml, .inl (cI, 4, .inl gl)), (mk, .inl (cI, 20, .inl fk)), (mv, .inl (cI, 20, .inl fv))] := hD
          refine lv_icmp_eq (tgt := 307) hx hb d_Law_law_137 (by decide) (fun h8 => ?_) (fun h8 => ?_)
          · -- (nI n) = (nI n)
            refine lv_iinc (v := ((nI j) + 4)) (k := 0) hx hb d_Law_law_307 hl rfl rfl (by decide) rfl (fun ls hl => ?_)
            have hl : lv_has ls 4 [(3, .int ((nI j) + 4)), (2, .ref q2), (1, .ref q1), (0, .ref b)] := hl
            refine lv_goto (tgt := 28) hx hb d_Law_law_310 (by decide) ?_
            rw [show nI j + 4 = nI (j + 4) from nI_add j 4] at hl
            exact ih (j + 4) 0 pp _ _ _ _ _ _ _ _ _ _ _ _ _ _ _ _ _ _ _ _ (by omega) (by omega) (lv_sub hl [0, 1, 2, 3] rfl) (hP.sub [9, 10, 11, 12, 0, 1, 2, 3, 4, 5, 6, 7, 8, 13, 14, 15, 16, 17, 18, 19, 20, 21] rfl) (hD.sub [9, 10, 11, 12, 0, 1, 2, 3, 4, 5, 6, 7, 8, 13, 14, 15, 16, 17, 18, 19, 20, 21] (by decide) rfl) (by omega) (by omega) hS
          · -- ¬ (nI n) = (nI n)
            exact absurd (rfl) h8
        · -- case 2
          have h5 : oo = 2 := Int32.toInt_inj.mp (by rw [h5]; decide)
          subst h5
          refine lv_tableIn (tgt := 142) (off := 100) hx hb d_Law_law_42 (by decide) (by decide) (by decide +kernel) (by decide) ?_
          rcases Nat.eq_zero_or_pos n with h0 | h0
          · -- n = 0
            subst h0
            refine lv_aload_n hx hb d_Law_law_142 rfl (lv_at hl 2 rfl) ?_
            have hPc := hP.sub (ws' := [(q1, .inr (0, [.ref pr, .ref wy, .ref mc])), (pr, .inr (1, [.int kd, .int (nI 0), .int (acOf kd), .ref po, .ref pn])), (po, .inl (cI, 64, .inl fo)), (pn, .inl (cI, 64, .inl fn))]) [0, 1, 2, 3] rfl
            have hDc := hD.sub (ws' := [(q1, .inr (0, [.ref pr, .ref wy, .ref mc])), (pr, .inr (1, [.int kd, .int (nI 0), .int (acOf kd), .ref po, .ref pn])), (po, .inl (cI, 64, .inl fo)), (pn, .inl (cI, 64, .inl fn))]) [0, 1, 2, 3] (by decide) rfl
            have hFc := va_free (wc := [(q1, .inr (0, [.ref pr, .ref wy, .ref mc])), (pr, .inr (1, [.int kd, .int (nI 0), .int (acOf kd), .ref po, .ref pn])), (po, .inl (cI, 64, .inl fo)), (pn, .inl (cI, 64, .inl fn))]) hD hS hA [0, 1, 2, 3] rfl
            refine va_calli (va_runV (As := []) (rest := []) ⟨hx, hb, hml, hown, hts⟩ (c_SJ_drop l D cI cZ tN tG H.size q1 wy mc pr po pn kd (nI 0) (acOf kd) fo fn) (cwV 0 hts (gd4 k_148 k_149 k_150 k_18 k_151) rfl rfl rfl (by decide +kernel) ⟨Nat.le_of_ble_eq_true rfl, Nat.le_of_ble_eq_true rfl⟩) ⟨MZ_blind, va_recv (q0 := 0) (ci := 0) hE.1 hP rfl rfl, mz_pre hE hZ hS hPc hDc hFc⟩ rfl rfl hl.1 rfl (lv_room (Nat.le_of_ble_eq_true rfl)) d_Law_law_143 ⟨Nat.le_of_ble_eq_true rfl, Nat.le_of_ble_eq_true rfl⟩) hS (fun q _ h => hFc q h) hFc (fun r u t H1 locs ht hvm hw hB hz1 hk1 hS => ?_)
            obtain ⟨hP1, hD1⟩ := hB
            rw [ht] at hP1
            have hw2 := hw.trans (drop_0 rfl)
            obtain ⟨hr1, hw1⟩ := Prod.mk.inj hw2
            clear hw hw2
            subst hr1
            subst hw1
            obtain ⟨hP, hD⟩ := va_join (wr := [(wy, .inr (2, [.ref re, .ref wa, .int wc])), (re, .inl (cI, 64, .inl fr)), (wa, .inl (cI, 576, .inl fw)), (mc, .inr (3, [.int res, .int stp, .int (nI pp), .ref ky, .ref vy, .ref gy, .ref ly, .ref sy, .int hgt, .int ap])), (ky, .inl (cI, 20, .inl fk)), (vy, .inl (cI, 20, .inl fv)), (gy, .inl (cI, 3, .inl fa)), (ly, .inl (cI, 4, .inl fl)), (sy, .inl (cI, 8, .inl fs)), (q2, .inr (4, [.int kd, .ref mp, .ref mq, .int (nI 0), .ref mr, .ref mw, .ref mt, .ref ml, .ref mk, .ref mv, .int (nI pp), .int stp, .int res])), (mp, .inl (cI, 64, .inl fo)), (mq, .inl (cI, 64, .inl fn)), (mr, .inl (cI, 576, .inl fR)), (mw, .inl (cZ, 64, .inl fW)), (mt, .inl (cI, 8, .inl fs)), (ml, .inl (cI, 4, .inl gl)), (mk, .inl (cI, 20, .inl fk)), (mv, .inl (cI, 20, .inl fv))]) (w1 := [(q1, .inr (0, [.ref pr, .ref wy, .ref mc])), (pr, .inr (1, [.int kd, .int (nI 0), .int (acOf kd), .ref po, .ref pn])), (po, .inl (cI, 64, .inl fo)), (pn, .inl (cI, 64, .inl fn))]) hP hD [0, 1, 2, 3] [4, 5, 6, 7, 8, 9, 10, 11, 12, 13, 14, 15, 16, 17, 18, 19, 20, 21] rfl rfl (by decide) (by decide) hk1 hFc hP1 hD1
            generalize H1 = H at hP hS ⊢
            have hP : va_P D classes [(wy, .inr (2, [.ref re, .ref wa, .int wc])), (re, .inl (cI, 64, .inl fr)), (wa, .inl (cI, 576, .inl fw)), (mc, .inr (3, [.int res, .int stp, .int (nI pp), .ref ky, .ref vy, .ref gy, .ref ly, .ref sy, .int hgt, .int ap])), (ky, .inl (cI, 20, .inl fk)), (vy, .inl (cI, 20, .inl fv)), (gy, .inl (cI, 3, .inl fa)), (ly, .inl (cI, 4, .inl fl)), (sy, .inl (cI, 8, .inl fs)), (q2, .inr (4, [.int kd, .ref mp, .ref mq, .int (nI 0), .ref mr, .ref mw, .ref mt, .ref ml, .ref mk, .ref mv, .int (nI pp), .int stp, .int res])), (mp, .inl (cI, 64, .inl fo)), (mq, .inl (cI, 64, .inl fn)), (mr, .inl (cI, 576, .inl fR)), (mw, .inl (cZ, 64, .inl fW)), (mt, .inl (cI, 8, .inl fs)), (ml, .inl (cI, 4, .inl gl)), (mk, .inl (cI, 20, .inl fk)), (mv, .inl (cI, 20, .inl fv)), (q1, .inr (0, [.ref pr, .ref wy, .ref mc])), (pr, .inr (1, [.int kd, .int (nI 0), .int (acOf kd), .ref po, .ref pn])), (po, .inl (cI, 64, .inl fo)), (pn, .inl (cI, 64, .inl fn))] H := hP
            have hD : va_D A [(wy, .inr (2, [.ref re, .ref wa, .int wc])), (re, .inl (cI, 64, .inl fr)), (wa, .inl (cI, 576, .inl fw)), (mc, .inr (3, [.int res, .int stp, .int (nI pp), .ref ky, .ref vy, .ref gy, .ref ly, .ref sy, .int hgt, .int ap])), (ky, .inl (cI, 20, .inl fk)), (vy, .inl (cI, 20, .inl fv)), (gy, .inl (cI, 3, .inl fa)), (ly, .inl (cI, 4, .inl fl)), (sy, .inl (cI, 8, .inl fs)), (q2, .inr (4, [.int kd, .ref mp, .ref mq, .int (nI 0), .ref mr, .ref mw, .ref mt, .ref ml, .ref mk, .ref mv, .int (nI pp), .int stp, .int res])), (mp, .inl (cI, 64, .inl fo)), (mq, .inl (cI, 64, .inl fn)), (mr, .inl (cI, 576, .inl fR)), (mw, .inl (cZ, 64, .inl fW)), (mt, .inl (cI, 8, .inl fs)), (ml, .inl (cI, 4, .inl gl)), (mk, .inl (cI, 20, .inl fk)), (mv, .inl (cI, 20, .inl fv)), (q1, .inr (0, [.ref pr, .ref wy, .ref mc])), (pr, .inr (1, [.int kd, .int (nI 0), .int (acOf kd), .ref po, .ref pn])), (po, .inl (cI, 64, .inl fo)), (pn, .inl (cI, 64, .inl fn))] := hD
            refine lv_aload_n hx hb d_Law_law_146 rfl (lv_at hl 1 rfl) ?_
            have hPc := hP.sub (ws' := [(q2, .inr (4, [.int kd, .ref mp, .ref mq, .int (nI 0), .ref mr, .ref mw, .ref mt, .ref ml, .ref mk, .ref mv, .int (nI pp), .int stp, .int res])), (mp, .inl (cI, 64, .inl fo)), (mq, .inl (cI, 64, .inl fn)), (mr, .inl (cI, 576, .inl fR)), (mw, .inl (cZ, 64, .inl fW)), (mt, .inl (cI, 8, .inl fs)), (ml, .inl (cI, 4, .inl gl)), (mk, .inl (cI, 20, .inl fk)), (mv, .inl (cI, 20, .inl fv))]) [9, 10, 11, 12, 13, 14, 15, 16, 17] rfl
            have hDc := hD.sub (ws' := [(q2, .inr (4, [.int kd, .ref mp, .ref mq, .int (nI 0), .ref mr, .ref mw, .ref mt, .ref ml, .ref mk, .ref mv, .int (nI pp), .int stp, .int res])), (mp, .inl (cI, 64, .inl fo)), (mq, .inl (cI, 64, .inl fn)), (mr, .inl (cI, 576, .inl fR)), (mw, .inl (cZ, 64, .inl fW)), (mt, .inl (cI, 8, .inl fs)), (ml, .inl (cI, 4, .inl gl)), (mk, .inl (cI, 20, .inl fk)), (mv, .inl (cI, 20, .inl fv))]) [9, 10, 11, 12, 13, 14, 15, 16, 17] (by decide) rfl
            have hFc := va_free (wc := [(q2, .inr (4, [.int kd, .ref mp, .ref mq, .int (nI 0), .ref mr, .ref mw, .ref mt, .ref ml, .ref mk, .ref mv, .int (nI pp), .int stp, .int res])), (mp, .inl (cI, 64, .inl fo)), (mq, .inl (cI, 64, .inl fn)), (mr, .inl (cI, 576, .inl fR)), (mw, .inl (cZ, 64, .inl fW)), (mt, .inl (cI, 8, .inl fs)), (ml, .inl (cI, 4, .inl gl)), (mk, .inl (cI, 20, .inl fk)), (mv, .inl (cI, 20, .inl fv))]) hD hS hA [9, 10, 11, 12, 13, 14, 15, 16, 17] rfl
            refine va_calli (va_runV (As := []) (rest := [.int (-2)]) ⟨hx, hb, hml, hown, hts⟩ (c_Model_drop l D cI cZ H.size q2 mp mq mr mw mt ml mk mv kd 0 fo fn fR fW fs gl fk fv (nI pp) stp res) (cwV 0 hts (gd4 k_365 k_366 k_367 k_22 k_368) rfl rfl rfl (by decide +kernel) ⟨Nat.le_of_ble_eq_true rfl, Nat.le_of_ble_eq_true rfl⟩) ⟨MY_blind, va_recv (q0 := 9) (ci := 4) hE.1 hP rfl rfl, my_pre hE hPc hDc⟩ rfl rfl hl.1 rfl (lv_room (Nat.le_of_ble_eq_true rfl)) d_Law_law_147 ⟨Nat.le_of_ble_eq_true rfl, Nat.le_of_ble_eq_true rfl⟩) hS (fun q _ h => hFc q h) hFc (fun r u t H1 locs ht hvm hw hB hz1 hk1 hS => ?_)
            obtain ⟨hP1, hD1⟩ := hB
            rw [ht] at hP1
            have hw2 := hw.trans (drop_0 rfl)
            obtain ⟨hr1, hw1⟩ := Prod.mk.inj hw2
            clear hw hw2
            subst hr1
            subst hw1
            obtain ⟨hP, hD⟩ := va_join (wr := [(wy, .inr (2, [.ref re, .ref wa, .int wc])), (re, .inl (cI, 64, .inl fr)), (wa, .inl (cI, 576, .inl fw)), (mc, .inr (3, [.int res, .int stp, .int (nI pp), .ref ky, .ref vy, .ref gy, .ref ly, .ref sy, .int hgt, .int ap])), (ky, .inl (cI, 20, .inl fk)), (vy, .inl (cI, 20, .inl fv)), (gy, .inl (cI, 3, .inl fa)), (ly, .inl (cI, 4, .inl fl)), (sy, .inl (cI, 8, .inl fs)), (q1, .inr (0, [.ref pr, .ref wy, .ref mc])), (pr, .inr (1, [.int kd, .int (nI 0), .int (acOf kd), .ref po, .ref pn])), (po, .inl (cI, 64, .inl fo)), (pn, .inl (cI, 64, .inl fn))]) (w1 := [(q2, .inr (4, [.int kd, .ref mp, .ref mq, .int (nI 0), .ref mr, .ref mw, .ref mt, .ref ml, .ref mk, .ref mv, .int (nI pp), .int stp, .int res])), (mp, .inl (cI, 64, .inl fo)), (mq, .inl (cI, 64, .inl fn)), (mr, .inl (cI, 576, .inl fR)), (mw, .inl (cZ, 64, .inl fW)), (mt, .inl (cI, 8, .inl fs)), (ml, .inl (cI, 4, .inl gl)), (mk, .inl (cI, 20, .inl fk)), (mv, .inl (cI, 20, .inl fv))]) hP hD [9, 10, 11, 12, 13, 14, 15, 16, 17] [0, 1, 2, 3, 4, 5, 6, 7, 8, 18, 19, 20, 21] rfl rfl (by decide) (by decide) hk1 hFc hP1 hD1
            generalize H1 = H at hP hS ⊢
            have hP : va_P D classes [(wy, .inr (2, [.ref re, .ref wa, .int wc])), (re, .inl (cI, 64, .inl fr)), (wa, .inl (cI, 576, .inl fw)), (mc, .inr (3, [.int res, .int stp, .int (nI pp), .ref ky, .ref vy, .ref gy, .ref ly, .ref sy, .int hgt, .int ap])), (ky, .inl (cI, 20, .inl fk)), (vy, .inl (cI, 20, .inl fv)), (gy, .inl (cI, 3, .inl fa)), (ly, .inl (cI, 4, .inl fl)), (sy, .inl (cI, 8, .inl fs)), (q1, .inr (0, [.ref pr, .ref wy, .ref mc])), (pr, .inr (1, [.int kd, .int (nI 0), .int (acOf kd), .ref po, .ref pn])), (po, .inl (cI, 64, .inl fo)), (pn, .inl (cI, 64, .inl fn)), (q2, .inr (4, [.int kd, .ref mp, .ref mq, .int (nI 0), .ref mr, .ref mw, .ref mt, .ref ml, .ref mk, .ref mv, .int (nI pp), .int stp, .int res])), (mp, .inl (cI, 64, .inl fo)), (mq, .inl (cI, 64, .inl fn)), (mr, .inl (cI, 576, .inl fR)), (mw, .inl (cZ, 64, .inl fW)), (mt, .inl (cI, 8, .inl fs)), (ml, .inl (cI, 4, .inl gl)), (mk, .inl (cI, 20, .inl fk)), (mv, .inl (cI, 20, .inl fv))] H := hP
            have hD : va_D A [(wy, .inr (2, [.ref re, .ref wa, .int wc])), (re, .inl (cI, 64, .inl fr)), (wa, .inl (cI, 576, .inl fw)), (mc, .inr (3, [.int res, .int stp, .int (nI pp), .ref ky, .ref vy, .ref gy, .ref ly, .ref sy, .int hgt, .int ap])), (ky, .inl (cI, 20, .inl fk)), (vy, .inl (cI, 20, .inl fv)), (gy, .inl (cI, 3, .inl fa)), (ly, .inl (cI, 4, .inl fl)), (sy, .inl (cI, 8, .inl fs)), (q1, .inr (0, [.ref pr, .ref wy, .ref mc])), (pr, .inr (1, [.int kd, .int (nI 0), .int (acOf kd), .ref po, .ref pn])), (po, .inl (cI, 64, .inl fo)), (pn, .inl (cI, 64, .inl fn)), (q2, .inr (4, [.int kd, .ref mp, .ref mq, .int (nI 0), .ref mr, .ref mw, .ref mt, .ref ml, .ref mk, .ref mv, .int (nI pp), .int stp, .int res])), (mp, .inl (cI, 64, .inl fo)), (mq, .inl (cI, 64, .inl fn)), (mr, .inl (cI, 576, .inl fR)), (mw, .inl (cZ, 64, .inl fW)), (mt, .inl (cI, 8, .inl fs)), (ml, .inl (cI, 4, .inl gl)), (mk, .inl (cI, 20, .inl fk)), (mv, .inl (cI, 20, .inl fv))] := hD
            refine lv_icmp_eq (tgt := 307) hx hb d_Law_law_150 (by decide) (fun h9 => ?_) (fun h9 => ?_)
            · -- (-2) = (-2)
              refine lv_iinc (v := ((nI j) + 4)) (k := 0) hx hb d_Law_law_307 hl rfl rfl (by decide) rfl (fun ls hl => ?_)
              have hl : lv_has ls 4 [(3, .int ((nI j) + 4)), (2, .ref q2), (1, .ref q1), (0, .ref b)] := hl
              refine lv_goto (tgt := 28) hx hb d_Law_law_310 (by decide) ?_
              rw [show nI j + 4 = nI (j + 4) from nI_add j 4] at hl
              exact ih (j + 4) 0 pp _ _ _ _ _ _ _ _ _ _ _ _ _ _ _ _ _ _ _ _ (by omega) (by omega) (lv_sub hl [0, 1, 2, 3] rfl) (hP.sub [9, 10, 11, 12, 0, 1, 2, 3, 4, 5, 6, 7, 8, 13, 14, 15, 16, 17, 18, 19, 20, 21] rfl) (hD.sub [9, 10, 11, 12, 0, 1, 2, 3, 4, 5, 6, 7, 8, 13, 14, 15, 16, 17, 18, 19, 20, 21] (by decide) rfl) (by omega) (by omega) hS
            · -- ¬ (-2) = (-2)
              exact absurd (rfl) h9
          · -- n = n0 + 1
            obtain ⟨n0, rfl⟩ : ∃ n0, n = n0 + 1 := ⟨n - 1, by omega⟩
            refine lv_aload_n hx hb d_Law_law_142 rfl (lv_at hl 2 rfl) ?_
            have hPc := hP.sub (ws' := [(q1, .inr (0, [.ref pr, .ref wy, .ref mc])), (pr, .inr (1, [.int kd, .int (nI (n0 + 1)), .int (acOf kd), .ref po, .ref pn])), (po, .inl (cI, 64, .inl fo)), (pn, .inl (cI, 64, .inl fn))]) [0, 1, 2, 3] rfl
            have hDc := hD.sub (ws' := [(q1, .inr (0, [.ref pr, .ref wy, .ref mc])), (pr, .inr (1, [.int kd, .int (nI (n0 + 1)), .int (acOf kd), .ref po, .ref pn])), (po, .inl (cI, 64, .inl fo)), (pn, .inl (cI, 64, .inl fn))]) [0, 1, 2, 3] (by decide) rfl
            have hFc := va_free (wc := [(q1, .inr (0, [.ref pr, .ref wy, .ref mc])), (pr, .inr (1, [.int kd, .int (nI (n0 + 1)), .int (acOf kd), .ref po, .ref pn])), (po, .inl (cI, 64, .inl fo)), (pn, .inl (cI, 64, .inl fn))]) hD hS hA [0, 1, 2, 3] rfl
            refine va_calli (va_runV (As := []) (rest := []) ⟨hx, hb, hml, hown, hts⟩ (c_SJ_drop l D cI cZ tN tG H.size q1 wy mc pr po pn kd (nI (n0 + 1)) (acOf kd) fo fn) (cwV 0 hts (gd4 k_148 k_149 k_150 k_18 k_151) rfl rfl rfl (by decide +kernel) ⟨Nat.le_of_ble_eq_true rfl, Nat.le_of_ble_eq_true rfl⟩) ⟨MZ_blind, va_recv (q0 := 0) (ci := 0) hE.1 hP rfl rfl, mz_pre hE hZ hS hPc hDc hFc⟩ rfl rfl hl.1 rfl (lv_room (Nat.le_of_ble_eq_true rfl)) d_Law_law_143 ⟨Nat.le_of_ble_eq_true rfl, Nat.le_of_ble_eq_true rfl⟩) hS (fun q _ h => hFc q h) hFc (fun r u t H1 locs ht hvm hw hB hz1 hk1 hS => ?_)
            obtain ⟨hP1, hD1⟩ := hB
            rw [ht] at hP1
            have hw2 := hw.trans (drop_s n0 hn)
            obtain ⟨hr1, hw1⟩ := Prod.mk.inj hw2
            clear hw hw2
            subst hr1
            subst hw1
            obtain ⟨hP, hD⟩ := va_join (wr := [(wy, .inr (2, [.ref re, .ref wa, .int wc])), (re, .inl (cI, 64, .inl fr)), (wa, .inl (cI, 576, .inl fw)), (mc, .inr (3, [.int res, .int stp, .int (nI pp), .ref ky, .ref vy, .ref gy, .ref ly, .ref sy, .int hgt, .int ap])), (ky, .inl (cI, 20, .inl fk)), (vy, .inl (cI, 20, .inl fv)), (gy, .inl (cI, 3, .inl fa)), (ly, .inl (cI, 4, .inl fl)), (sy, .inl (cI, 8, .inl fs)), (q2, .inr (4, [.int kd, .ref mp, .ref mq, .int (nI (n0 + 1)), .ref mr, .ref mw, .ref mt, .ref ml, .ref mk, .ref mv, .int (nI pp), .int stp, .int res])), (mp, .inl (cI, 64, .inl fo)), (mq, .inl (cI, 64, .inl fn)), (mr, .inl (cI, 576, .inl fR)), (mw, .inl (cZ, 64, .inl fW)), (mt, .inl (cI, 8, .inl fs)), (ml, .inl (cI, 4, .inl gl)), (mk, .inl (cI, 20, .inl fk)), (mv, .inl (cI, 20, .inl fv))]) (w1 := [(q1, .inr (0, [.ref pr, .ref wy, .ref mc])), (pr, .inr (1, [.int kd, .int (nI n0), .int (acOf kd), .ref po, .ref pn])), (po, .inl (cI, 64, .inl fo)), (pn, .inl (cI, 64, .inl fn))]) hP hD [0, 1, 2, 3] [4, 5, 6, 7, 8, 9, 10, 11, 12, 13, 14, 15, 16, 17, 18, 19, 20, 21] rfl rfl (by decide) (by decide) hk1 hFc hP1 hD1
            generalize H1 = H at hP hS ⊢
            have hP : va_P D classes [(wy, .inr (2, [.ref re, .ref wa, .int wc])), (re, .inl (cI, 64, .inl fr)), (wa, .inl (cI, 576, .inl fw)), (mc, .inr (3, [.int res, .int stp, .int (nI pp), .ref ky, .ref vy, .ref gy, .ref ly, .ref sy, .int hgt, .int ap])), (ky, .inl (cI, 20, .inl fk)), (vy, .inl (cI, 20, .inl fv)), (gy, .inl (cI, 3, .inl fa)), (ly, .inl (cI, 4, .inl fl)), (sy, .inl (cI, 8, .inl fs)), (q2, .inr (4, [.int kd, .ref mp, .ref mq, .int (nI (n0 + 1)), .ref mr, .ref mw, .ref mt, .ref ml, .ref mk, .ref mv, .int (nI pp), .int stp, .int res])), (mp, .inl (cI, 64, .inl fo)), (mq, .inl (cI, 64, .inl fn)), (mr, .inl (cI, 576, .inl fR)), (mw, .inl (cZ, 64, .inl fW)), (mt, .inl (cI, 8, .inl fs)), (ml, .inl (cI, 4, .inl gl)), (mk, .inl (cI, 20, .inl fk)), (mv, .inl (cI, 20, .inl fv)), (q1, .inr (0, [.ref pr, .ref wy, .ref mc])), (pr, .inr (1, [.int kd, .int (nI n0), .int (acOf kd), .ref po, .ref pn])), (po, .inl (cI, 64, .inl fo)), (pn, .inl (cI, 64, .inl fn))] H := hP
            have hD : va_D A [(wy, .inr (2, [.ref re, .ref wa, .int wc])), (re, .inl (cI, 64, .inl fr)), (wa, .inl (cI, 576, .inl fw)), (mc, .inr (3, [.int res, .int stp, .int (nI pp), .ref ky, .ref vy, .ref gy, .ref ly, .ref sy, .int hgt, .int ap])), (ky, .inl (cI, 20, .inl fk)), (vy, .inl (cI, 20, .inl fv)), (gy, .inl (cI, 3, .inl fa)), (ly, .inl (cI, 4, .inl fl)), (sy, .inl (cI, 8, .inl fs)), (q2, .inr (4, [.int kd, .ref mp, .ref mq, .int (nI (n0 + 1)), .ref mr, .ref mw, .ref mt, .ref ml, .ref mk, .ref mv, .int (nI pp), .int stp, .int res])), (mp, .inl (cI, 64, .inl fo)), (mq, .inl (cI, 64, .inl fn)), (mr, .inl (cI, 576, .inl fR)), (mw, .inl (cZ, 64, .inl fW)), (mt, .inl (cI, 8, .inl fs)), (ml, .inl (cI, 4, .inl gl)), (mk, .inl (cI, 20, .inl fk)), (mv, .inl (cI, 20, .inl fv)), (q1, .inr (0, [.ref pr, .ref wy, .ref mc])), (pr, .inr (1, [.int kd, .int (nI n0), .int (acOf kd), .ref po, .ref pn])), (po, .inl (cI, 64, .inl fo)), (pn, .inl (cI, 64, .inl fn))] := hD
            refine lv_aload_n hx hb d_Law_law_146 rfl (lv_at hl 1 rfl) ?_
            have hPc := hP.sub (ws' := [(q2, .inr (4, [.int kd, .ref mp, .ref mq, .int (nI (n0 + 1)), .ref mr, .ref mw, .ref mt, .ref ml, .ref mk, .ref mv, .int (nI pp), .int stp, .int res])), (mp, .inl (cI, 64, .inl fo)), (mq, .inl (cI, 64, .inl fn)), (mr, .inl (cI, 576, .inl fR)), (mw, .inl (cZ, 64, .inl fW)), (mt, .inl (cI, 8, .inl fs)), (ml, .inl (cI, 4, .inl gl)), (mk, .inl (cI, 20, .inl fk)), (mv, .inl (cI, 20, .inl fv))]) [9, 10, 11, 12, 13, 14, 15, 16, 17] rfl
            have hDc := hD.sub (ws' := [(q2, .inr (4, [.int kd, .ref mp, .ref mq, .int (nI (n0 + 1)), .ref mr, .ref mw, .ref mt, .ref ml, .ref mk, .ref mv, .int (nI pp), .int stp, .int res])), (mp, .inl (cI, 64, .inl fo)), (mq, .inl (cI, 64, .inl fn)), (mr, .inl (cI, 576, .inl fR)), (mw, .inl (cZ, 64, .inl fW)), (mt, .inl (cI, 8, .inl fs)), (ml, .inl (cI, 4, .inl gl)), (mk, .inl (cI, 20, .inl fk)), (mv, .inl (cI, 20, .inl fv))]) [9, 10, 11, 12, 13, 14, 15, 16, 17] (by decide) rfl
            have hFc := va_free (wc := [(q2, .inr (4, [.int kd, .ref mp, .ref mq, .int (nI (n0 + 1)), .ref mr, .ref mw, .ref mt, .ref ml, .ref mk, .ref mv, .int (nI pp), .int stp, .int res])), (mp, .inl (cI, 64, .inl fo)), (mq, .inl (cI, 64, .inl fn)), (mr, .inl (cI, 576, .inl fR)), (mw, .inl (cZ, 64, .inl fW)), (mt, .inl (cI, 8, .inl fs)), (ml, .inl (cI, 4, .inl gl)), (mk, .inl (cI, 20, .inl fk)), (mv, .inl (cI, 20, .inl fv))]) hD hS hA [9, 10, 11, 12, 13, 14, 15, 16, 17] rfl
            refine va_calli (va_runV (As := []) (rest := [.int (nI n0)]) ⟨hx, hb, hml, hown, hts⟩ (c_Model_drop l D cI cZ H.size q2 mp mq mr mw mt ml mk mv kd (n0 + 1) fo fn fR fW fs gl fk fv (nI pp) stp res) (cwV 0 hts (gd4 k_365 k_366 k_367 k_22 k_368) rfl rfl rfl (by decide +kernel) ⟨Nat.le_of_ble_eq_true rfl, Nat.le_of_ble_eq_true rfl⟩) ⟨MY_blind, va_recv (q0 := 9) (ci := 4) hE.1 hP rfl rfl, my_pre hE hPc hDc⟩ rfl rfl hl.1 rfl (lv_room (Nat.le_of_ble_eq_true rfl)) d_Law_law_147 ⟨Nat.le_of_ble_eq_true rfl, Nat.le_of_ble_eq_true rfl⟩) hS (fun q _ h => hFc q h) hFc (fun r u t H1 locs ht hvm hw hB hz1 hk1 hS => ?_)
            obtain ⟨hP1, hD1⟩ := hB
            rw [ht] at hP1
            have hw2 := hw.trans (drop_s n0 hn)
            obtain ⟨hr1, hw1⟩ := Prod.mk.inj hw2
            clear hw hw2
            subst hr1
            subst hw1
            obtain ⟨hP, hD⟩ := va_join (wr := [(wy, .inr (2, [.ref re, .ref wa, .int wc])), (re, .inl (cI, 64, .inl fr)), (wa, .inl (cI, 576, .inl fw)), (mc, .inr (3, [.int res, .int stp, .int (nI pp), .ref ky, .ref vy, .ref gy, .ref ly, .ref sy, .int hgt, .int ap])), (ky, .inl (cI, 20, .inl fk)), (vy, .inl (cI, 20, .inl fv)), (gy, .inl (cI, 3, .inl fa)), (ly, .inl (cI, 4, .inl fl)), (sy, .inl (cI, 8, .inl fs)), (q1, .inr (0, [.ref pr, .ref wy, .ref mc])), (pr, .inr (1, [.int kd, .int (nI n0), .int (acOf kd), .ref po, .ref pn])), (po, .inl (cI, 64, .inl fo)), (pn, .inl (cI, 64, .inl fn))]) (w1 := [(q2, .inr (4, [.int kd, .ref mp, .ref mq, .int (nI n0), .ref mr, .ref mw, .ref mt, .ref ml, .ref mk, .ref mv, .int (nI pp), .int stp, .int res])), (mp, .inl (cI, 64, .inl fo)), (mq, .inl (cI, 64, .inl fn)), (mr, .inl (cI, 576, .inl fR)), (mw, .inl (cZ, 64, .inl fW)), (mt, .inl (cI, 8, .inl fs)), (ml, .inl (cI, 4, .inl gl)), (mk, .inl (cI, 20, .inl fk)), (mv, .inl (cI, 20, .inl fv))]) hP hD [9, 10, 11, 12, 13, 14, 15, 16, 17] [0, 1, 2, 3, 4, 5, 6, 7, 8, 18, 19, 20, 21] rfl rfl (by decide) (by decide) hk1 hFc hP1 hD1
            generalize H1 = H at hP hS ⊢
            have hP : va_P D classes [(wy, .inr (2, [.ref re, .ref wa, .int wc])), (re, .inl (cI, 64, .inl fr)), (wa, .inl (cI, 576, .inl fw)), (mc, .inr (3, [.int res, .int stp, .int (nI pp), .ref ky, .ref vy, .ref gy, .ref ly, .ref sy, .int hgt, .int ap])), (ky, .inl (cI, 20, .inl fk)), (vy, .inl (cI, 20, .inl fv)), (gy, .inl (cI, 3, .inl fa)), (ly, .inl (cI, 4, .inl fl)), (sy, .inl (cI, 8, .inl fs)), (q1, .inr (0, [.ref pr, .ref wy, .ref mc])), (pr, .inr (1, [.int kd, .int (nI n0), .int (acOf kd), .ref po, .ref pn])), (po, .inl (cI, 64, .inl fo)), (pn, .inl (cI, 64, .inl fn)), (q2, .inr (4, [.int kd, .ref mp, .ref mq, .int (nI n0), .ref mr, .ref mw, .ref mt, .ref ml, .ref mk, .ref mv, .int (nI pp), .int stp, .int res])), (mp, .inl (cI, 64, .inl fo)), (mq, .inl (cI, 64, .inl fn)), (mr, .inl (cI, 576, .inl fR)), (mw, .inl (cZ, 64, .inl fW)), (mt, .inl (cI, 8, .inl fs)), (ml, .inl (cI, 4, .inl gl)), (mk, .inl (cI, 20, .inl fk)), (mv, .inl (cI, 20, .inl fv))] H := hP
            have hD : va_D A [(wy, .inr (2, [.ref re, .ref wa, .int wc])), (re, .inl (cI, 64, .inl fr)), (wa, .inl (cI, 576, .inl fw)), (mc, .inr (3, [.int res, .int stp, .int (nI pp), .ref ky, .ref vy, .ref gy, .ref ly, .ref sy, .int hgt, .int ap])), (ky, .inl (cI, 20, .inl fk)), (vy, .inl (cI, 20, .inl fv)), (gy, .inl (cI, 3, .inl fa)), (ly, .inl (cI, 4, .inl fl)), (sy, .inl (cI, 8, .inl fs)), (q1, .inr (0, [.ref pr, .ref wy, .ref mc])), (pr, .inr (1, [.int kd, .int (nI n0), .int (acOf kd), .ref po, .ref pn])), (po, .inl (cI, 64, .inl fo)), (pn, .inl (cI, 64, .inl fn)), (q2, .inr (4, [.int kd, .ref mp, .ref mq, .int (nI n0), .ref mr, .ref mw, .ref mt, .ref ml, .ref mk, .ref mv, .int (nI pp), .int stp, .int res])), (mp, .inl (cI, 64, .inl fo)), (mq, .inl (cI, 64, .inl fn)), (mr, .inl (cI, 576, .inl fR)), (mw, .inl (cZ, 64, .inl fW)), (mt, .inl (cI, 8, .inl fs)), (ml, .inl (cI, 4, .inl gl)), (mk, .inl (cI, 20, .inl fk)), (mv, .inl (cI, 20, .inl fv))] := hD
            refine lv_icmp_eq (tgt := 307) hx hb d_Law_law_150 (by decide) (fun h10 => ?_) (fun h10 => ?_)
            · -- (nI n0) = (nI n0)
              refine lv_iinc (v := ((nI j) + 4)) (k := 0) hx hb d_Law_law_307 hl rfl rfl (by decide) rfl (fun ls hl => ?_)
              have hl : lv_has ls 4 [(3, .int ((nI j) + 4)), (2, .ref q2), (1, .ref q1), (0, .ref b)] := hl
              refine lv_goto (tgt := 28) hx hb d_Law_law_310 (by decide) ?_
              rw [show nI j + 4 = nI (j + 4) from nI_add j 4] at hl
              exact ih (j + 4) n0 pp _ _ _ _ _ _ _ _ _ _ _ _ _ _ _ _ _ _ _ _ (by omega) (by omega) (lv_sub hl [0, 1, 2, 3] rfl) (hP.sub [9, 10, 11, 12, 0, 1, 2, 3, 4, 5, 6, 7, 8, 13, 14, 15, 16, 17, 18, 19, 20, 21] rfl) (hD.sub [9, 10, 11, 12, 0, 1, 2, 3, 4, 5, 6, 7, 8, 13, 14, 15, 16, 17, 18, 19, 20, 21] (by decide) rfl) (by omega) (by omega) hS
            · -- ¬ (nI n0) = (nI n0)
              exact absurd (rfl) h10
        · -- case 3
          have h5 : oo = 3 := Int32.toInt_inj.mp (by rw [h5]; decide)
          subst h5
          refine lv_tableIn (tgt := 155) (off := 113) hx hb d_Law_law_42 (by decide) (by decide) (by decide +kernel) (by decide) ?_
          refine lv_aload_n hx hb d_Law_law_155 rfl (lv_at hl 2 rfl) ?_
          have hPc := hP.sub (ws' := [(q1, .inr (0, [.ref pr, .ref wy, .ref mc])), (pr, .inr (1, [.int kd, .int (nI n), .int (acOf kd), .ref po, .ref pn])), (po, .inl (cI, 64, .inl fo)), (pn, .inl (cI, 64, .inl fn)), (wy, .inr (2, [.ref re, .ref wa, .int wc])), (re, .inl (cI, 64, .inl fr)), (wa, .inl (cI, 576, .inl fw))]) [0, 1, 2, 3, 4, 5, 6] rfl
          have hDc := hD.sub (ws' := [(q1, .inr (0, [.ref pr, .ref wy, .ref mc])), (pr, .inr (1, [.int kd, .int (nI n), .int (acOf kd), .ref po, .ref pn])), (po, .inl (cI, 64, .inl fo)), (pn, .inl (cI, 64, .inl fn)), (wy, .inr (2, [.ref re, .ref wa, .int wc])), (re, .inl (cI, 64, .inl fr)), (wa, .inl (cI, 576, .inl fw))]) [0, 1, 2, 3, 4, 5, 6] (by decide) rfl
          have hFc := va_free (wc := [(q1, .inr (0, [.ref pr, .ref wy, .ref mc])), (pr, .inr (1, [.int kd, .int (nI n), .int (acOf kd), .ref po, .ref pn])), (po, .inl (cI, 64, .inl fo)), (pn, .inl (cI, 64, .inl fn)), (wy, .inr (2, [.ref re, .ref wa, .int wc])), (re, .inl (cI, 64, .inl fr)), (wa, .inl (cI, 576, .inl fw))]) hD hS hA [0, 1, 2, 3, 4, 5, 6] rfl
          refine va_calli (va_runV (As := []) (rest := []) ⟨hx, hb, hml, hown, hts⟩ (c_SJ_check l D cI cZ tN tG H.size q1 wy mc pr po pn kd (acOf kd) n fo fn re wa fr fw wc hn) (cwV 0 hts (gd4 k_152 k_153 k_154 k_18 k_155) rfl rfl rfl (by decide +kernel) ⟨Nat.le_of_ble_eq_true rfl, Nat.le_of_ble_eq_true rfl⟩) ⟨MZ_blind, va_recv (q0 := 0) (ci := 0) hE.1 hP rfl rfl, mz_pre hE hZ hS hPc hDc hFc⟩ rfl rfl hl.1 rfl (lv_room (Nat.le_of_ble_eq_true rfl)) d_Law_law_156 ⟨Nat.le_of_ble_eq_true rfl, Nat.le_of_ble_eq_true rfl⟩) hS (fun q _ h => hFc q h) hFc (fun r u t H1 locs ht hvm hw hB hz1 hk1 hS => ?_)
          obtain ⟨hP1, hD1⟩ := hB
          rw [ht] at hP1
          obtain ⟨hr1, hw1⟩ := hw
          subst hr1
          subst hw1
          obtain ⟨hP, hD⟩ := va_join (wr := [(mc, .inr (3, [.int res, .int stp, .int (nI pp), .ref ky, .ref vy, .ref gy, .ref ly, .ref sy, .int hgt, .int ap])), (ky, .inl (cI, 20, .inl fk)), (vy, .inl (cI, 20, .inl fv)), (gy, .inl (cI, 3, .inl fa)), (ly, .inl (cI, 4, .inl fl)), (sy, .inl (cI, 8, .inl fs)), (q2, .inr (4, [.int kd, .ref mp, .ref mq, .int (nI n), .ref mr, .ref mw, .ref mt, .ref ml, .ref mk, .ref mv, .int (nI pp), .int stp, .int res])), (mp, .inl (cI, 64, .inl fo)), (mq, .inl (cI, 64, .inl fn)), (mr, .inl (cI, 576, .inl fR)), (mw, .inl (cZ, 64, .inl fW)), (mt, .inl (cI, 8, .inl fs)), (ml, .inl (cI, 4, .inl gl)), (mk, .inl (cI, 20, .inl fk)), (mv, .inl (cI, 20, .inl fv))]) (w1 := [(q1, .inr (0, [.ref pr, .ref wy, .ref mc])), (pr, .inr (1, [.int kd, .int (nI n), .int (acOf kd), .ref po, .ref pn])), (po, .inl (cI, 64, .inl fo)), (pn, .inl (cI, 64, .inl fn)), (wy, .inr (2, [.ref re, .ref wa, .int ((j_fol kd (acOf kd) n fo fn (fr, fw, wc)).2.2)])), (re, .inl (cI, 64, .inl ((j_fol kd (acOf kd) n fo fn (fr, fw, wc)).1))), (wa, .inl (cI, 576, .inl ((j_fol kd (acOf kd) n fo fn (fr, fw, wc)).2.1)))]) hP hD [0, 1, 2, 3, 4, 5, 6] [7, 8, 9, 10, 11, 12, 13, 14, 15, 16, 17, 18, 19, 20, 21] rfl rfl (by decide) (by decide) hk1 hFc hP1 hD1
          generalize H1 = H at hP hS ⊢
          have hP : va_P D classes [(mc, .inr (3, [.int res, .int stp, .int (nI pp), .ref ky, .ref vy, .ref gy, .ref ly, .ref sy, .int hgt, .int ap])), (ky, .inl (cI, 20, .inl fk)), (vy, .inl (cI, 20, .inl fv)), (gy, .inl (cI, 3, .inl fa)), (ly, .inl (cI, 4, .inl fl)), (sy, .inl (cI, 8, .inl fs)), (q2, .inr (4, [.int kd, .ref mp, .ref mq, .int (nI n), .ref mr, .ref mw, .ref mt, .ref ml, .ref mk, .ref mv, .int (nI pp), .int stp, .int res])), (mp, .inl (cI, 64, .inl fo)), (mq, .inl (cI, 64, .inl fn)), (mr, .inl (cI, 576, .inl fR)), (mw, .inl (cZ, 64, .inl fW)), (mt, .inl (cI, 8, .inl fs)), (ml, .inl (cI, 4, .inl gl)), (mk, .inl (cI, 20, .inl fk)), (mv, .inl (cI, 20, .inl fv)), (q1, .inr (0, [.ref pr, .ref wy, .ref mc])), (pr, .inr (1, [.int kd, .int (nI n), .int (acOf kd), .ref po, .ref pn])), (po, .inl (cI, 64, .inl fo)), (pn, .inl (cI, 64, .inl fn)), (wy, .inr (2, [.ref re, .ref wa, .int ((j_fol kd (acOf kd) n fo fn (fr, fw, wc)).2.2)])), (re, .inl (cI, 64, .inl ((j_fol kd (acOf kd) n fo fn (fr, fw, wc)).1))), (wa, .inl (cI, 576, .inl ((j_fol kd (acOf kd) n fo fn (fr, fw, wc)).2.1)))] H := hP
          have hD : va_D A [(mc, .inr (3, [.int res, .int stp, .int (nI pp), .ref ky, .ref vy, .ref gy, .ref ly, .ref sy, .int hgt, .int ap])), (ky, .inl (cI, 20, .inl fk)), (vy, .inl (cI, 20, .inl fv)), (gy, .inl (cI, 3, .inl fa)), (ly, .inl (cI, 4, .inl fl)), (sy, .inl (cI, 8, .inl fs)), (q2, .inr (4, [.int kd, .ref mp, .ref mq, .int (nI n), .ref mr, .ref mw, .ref mt, .ref ml, .ref mk, .ref mv, .int (nI pp), .int stp, .int res])), (mp, .inl (cI, 64, .inl fo)), (mq, .inl (cI, 64, .inl fn)), (mr, .inl (cI, 576, .inl fR)), (mw, .inl (cZ, 64, .inl fW)), (mt, .inl (cI, 8, .inl fs)), (ml, .inl (cI, 4, .inl gl)), (mk, .inl (cI, 20, .inl fk)), (mv, .inl (cI, 20, .inl fv)), (q1, .inr (0, [.ref pr, .ref wy, .ref mc])), (pr, .inr (1, [.int kd, .int (nI n), .int (acOf kd), .ref po, .ref pn])), (po, .inl (cI, 64, .inl fo)), (pn, .inl (cI, 64, .inl fn)), (wy, .inr (2, [.ref re, .ref wa, .int ((j_fol kd (acOf kd) n fo fn (fr, fw, wc)).2.2)])), (re, .inl (cI, 64, .inl ((j_fol kd (acOf kd) n fo fn (fr, fw, wc)).1))), (wa, .inl (cI, 576, .inl ((j_fol kd (acOf kd) n fo fn (fr, fw, wc)).2.1)))] := hD
          refine lv_aload_n hx hb d_Law_law_159 rfl (lv_at hl 1 rfl) ?_
          have hPc := hP.sub (ws' := [(q2, .inr (4, [.int kd, .ref mp, .ref mq, .int (nI n), .ref mr, .ref mw, .ref mt, .ref ml, .ref mk, .ref mv, .int (nI pp), .int stp, .int res])), (mp, .inl (cI, 64, .inl fo)), (mq, .inl (cI, 64, .inl fn)), (mr, .inl (cI, 576, .inl fR)), (mw, .inl (cZ, 64, .inl fW)), (mt, .inl (cI, 8, .inl fs)), (ml, .inl (cI, 4, .inl gl)), (mk, .inl (cI, 20, .inl fk)), (mv, .inl (cI, 20, .inl fv))]) [6, 7, 8, 9, 10, 11, 12, 13, 14] rfl
          have hDc := hD.sub (ws' := [(q2, .inr (4, [.int kd, .ref mp, .ref mq, .int (nI n), .ref mr, .ref mw, .ref mt, .ref ml, .ref mk, .ref mv, .int (nI pp), .int stp, .int res])), (mp, .inl (cI, 64, .inl fo)), (mq, .inl (cI, 64, .inl fn)), (mr, .inl (cI, 576, .inl fR)), (mw, .inl (cZ, 64, .inl fW)), (mt, .inl (cI, 8, .inl fs)), (ml, .inl (cI, 4, .inl gl)), (mk, .inl (cI, 20, .inl fk)), (mv, .inl (cI, 20, .inl fv))]) [6, 7, 8, 9, 10, 11, 12, 13, 14] (by decide) rfl
          have hFc := va_free (wc := [(q2, .inr (4, [.int kd, .ref mp, .ref mq, .int (nI n), .ref mr, .ref mw, .ref mt, .ref ml, .ref mk, .ref mv, .int (nI pp), .int stp, .int res])), (mp, .inl (cI, 64, .inl fo)), (mq, .inl (cI, 64, .inl fn)), (mr, .inl (cI, 576, .inl fR)), (mw, .inl (cZ, 64, .inl fW)), (mt, .inl (cI, 8, .inl fs)), (ml, .inl (cI, 4, .inl gl)), (mk, .inl (cI, 20, .inl fk)), (mv, .inl (cI, 20, .inl fv))]) hD hS hA [6, 7, 8, 9, 10, 11, 12, 13, 14] rfl
          refine va_calli (va_runV (As := []) (rest := [.int (j_chk kd (acOf kd) n fo fn (fr, fw, wc))]) ⟨hx, hb, hml, hown, hts⟩ (c_Model_check l D cI cZ H.size q2 mp mq mr mw mt ml mk mv kd n fo fn fR fW fs gl fk fv (nI pp) stp res hk hn) (cwV 0 hts (gd4 k_396 k_397 k_398 k_22 k_399) rfl rfl rfl (by decide +kernel) ⟨Nat.le_of_ble_eq_true rfl, Nat.le_of_ble_eq_true rfl⟩) ⟨MY_blind, va_recv (q0 := 6) (ci := 4) hE.1 hP rfl rfl, my_pre hE hPc hDc⟩ rfl rfl hl.1 rfl (lv_room (Nat.le_of_ble_eq_true rfl)) d_Law_law_160 ⟨Nat.le_of_ble_eq_true rfl, Nat.le_of_ble_eq_true rfl⟩) hS (fun q _ h => hFc q h) hFc (fun r u t H1 locs ht hvm hw hB hz1 hk1 hS => ?_)
          obtain ⟨hP1, hD1⟩ := hB
          rw [ht] at hP1
          obtain ⟨g1, g2⟩ := u
          have hCk := hw
          generalize r = rc at hCk ⊢
          obtain ⟨hP, hD⟩ := va_join (wr := [(mc, .inr (3, [.int res, .int stp, .int (nI pp), .ref ky, .ref vy, .ref gy, .ref ly, .ref sy, .int hgt, .int ap])), (ky, .inl (cI, 20, .inl fk)), (vy, .inl (cI, 20, .inl fv)), (gy, .inl (cI, 3, .inl fa)), (ly, .inl (cI, 4, .inl fl)), (sy, .inl (cI, 8, .inl fs)), (q1, .inr (0, [.ref pr, .ref wy, .ref mc])), (pr, .inr (1, [.int kd, .int (nI n), .int (acOf kd), .ref po, .ref pn])), (po, .inl (cI, 64, .inl fo)), (pn, .inl (cI, 64, .inl fn)), (wy, .inr (2, [.ref re, .ref wa, .int ((j_fol kd (acOf kd) n fo fn (fr, fw, wc)).2.2)])), (re, .inl (cI, 64, .inl ((j_fol kd (acOf kd) n fo fn (fr, fw, wc)).1))), (wa, .inl (cI, 576, .inl ((j_fol kd (acOf kd) n fo fn (fr, fw, wc)).2.1)))]) (w1 := [(q2, .inr (4, [.int kd, .ref mp, .ref mq, .int (nI n), .ref mr, .ref mw, .ref mt, .ref ml, .ref mk, .ref mv, .int (nI pp), .int stp, .int res])), (mp, .inl (cI, 64, .inl fo)), (mq, .inl (cI, 64, .inl fn)), (mr, .inl (cI, 576, .inl g1)), (mw, .inl (cZ, 64, .inl g2)), (mt, .inl (cI, 8, .inl fs)), (ml, .inl (cI, 4, .inl gl)), (mk, .inl (cI, 20, .inl fk)), (mv, .inl (cI, 20, .inl fv))]) hP hD [6, 7, 8, 9, 10, 11, 12, 13, 14] [0, 1, 2, 3, 4, 5, 15, 16, 17, 18, 19, 20, 21] rfl rfl (by decide) (by decide) hk1 hFc hP1 hD1
          generalize H1 = H at hP hS ⊢
          have hP : va_P D classes [(mc, .inr (3, [.int res, .int stp, .int (nI pp), .ref ky, .ref vy, .ref gy, .ref ly, .ref sy, .int hgt, .int ap])), (ky, .inl (cI, 20, .inl fk)), (vy, .inl (cI, 20, .inl fv)), (gy, .inl (cI, 3, .inl fa)), (ly, .inl (cI, 4, .inl fl)), (sy, .inl (cI, 8, .inl fs)), (q1, .inr (0, [.ref pr, .ref wy, .ref mc])), (pr, .inr (1, [.int kd, .int (nI n), .int (acOf kd), .ref po, .ref pn])), (po, .inl (cI, 64, .inl fo)), (pn, .inl (cI, 64, .inl fn)), (wy, .inr (2, [.ref re, .ref wa, .int ((j_fol kd (acOf kd) n fo fn (fr, fw, wc)).2.2)])), (re, .inl (cI, 64, .inl ((j_fol kd (acOf kd) n fo fn (fr, fw, wc)).1))), (wa, .inl (cI, 576, .inl ((j_fol kd (acOf kd) n fo fn (fr, fw, wc)).2.1))), (q2, .inr (4, [.int kd, .ref mp, .ref mq, .int (nI n), .ref mr, .ref mw, .ref mt, .ref ml, .ref mk, .ref mv, .int (nI pp), .int stp, .int res])), (mp, .inl (cI, 64, .inl fo)), (mq, .inl (cI, 64, .inl fn)), (mr, .inl (cI, 576, .inl g1)), (mw, .inl (cZ, 64, .inl g2)), (mt, .inl (cI, 8, .inl fs)), (ml, .inl (cI, 4, .inl gl)), (mk, .inl (cI, 20, .inl fk)), (mv, .inl (cI, 20, .inl fv))] H := hP
          have hD : va_D A [(mc, .inr (3, [.int res, .int stp, .int (nI pp), .ref ky, .ref vy, .ref gy, .ref ly, .ref sy, .int hgt, .int ap])), (ky, .inl (cI, 20, .inl fk)), (vy, .inl (cI, 20, .inl fv)), (gy, .inl (cI, 3, .inl fa)), (ly, .inl (cI, 4, .inl fl)), (sy, .inl (cI, 8, .inl fs)), (q1, .inr (0, [.ref pr, .ref wy, .ref mc])), (pr, .inr (1, [.int kd, .int (nI n), .int (acOf kd), .ref po, .ref pn])), (po, .inl (cI, 64, .inl fo)), (pn, .inl (cI, 64, .inl fn)), (wy, .inr (2, [.ref re, .ref wa, .int ((j_fol kd (acOf kd) n fo fn (fr, fw, wc)).2.2)])), (re, .inl (cI, 64, .inl ((j_fol kd (acOf kd) n fo fn (fr, fw, wc)).1))), (wa, .inl (cI, 576, .inl ((j_fol kd (acOf kd) n fo fn (fr, fw, wc)).2.1))), (q2, .inr (4, [.int kd, .ref mp, .ref mq, .int (nI n), .ref mr, .ref mw, .ref mt, .ref ml, .ref mk, .ref mv, .int (nI pp), .int stp, .int res])), (mp, .inl (cI, 64, .inl fo)), (mq, .inl (cI, 64, .inl fn)), (mr, .inl (cI, 576, .inl g1)), (mw, .inl (cZ, 64, .inl g2)), (mt, .inl (cI, 8, .inl fs)), (ml, .inl (cI, 4, .inl gl)), (mk, .inl (cI, 20, .inl fk)), (mv, .inl (cI, 20, .inl fv))] := hD
          refine lv_icmp_eq (tgt := 307) hx hb d_Law_law_163 (by decide) (fun h11 => ?_) (fun h11 => ?_)
          · -- (j_chk kd (acOf kd) n fo fn (fr, fw, wc)) = rc
            refine lv_iinc (v := ((nI j) + 4)) (k := 0) hx hb d_Law_law_307 hl rfl rfl (by decide) rfl (fun ls hl => ?_)
            have hl : lv_has ls 4 [(3, .int ((nI j) + 4)), (2, .ref q2), (1, .ref q1), (0, .ref b)] := hl
            refine lv_goto (tgt := 28) hx hb d_Law_law_310 (by decide) ?_
            rw [show nI j + 4 = nI (j + 4) from nI_add j 4] at hl
            exact ih (j + 4) n pp _ _ _ _ _ _ _ _ _ _ _ _ _ _ _ _ _ _ _ _ (by omega) (by omega) (lv_sub hl [0, 1, 2, 3] rfl) (hP.sub [6, 7, 8, 9, 10, 11, 12, 0, 1, 2, 3, 4, 5, 13, 14, 15, 16, 17, 18, 19, 20, 21] rfl) (hD.sub [6, 7, 8, 9, 10, 11, 12, 0, 1, 2, 3, 4, 5, 13, 14, 15, 16, 17, 18, 19, 20, 21] (by decide) rfl) (by omega) (by omega) hS
          · -- ¬ (j_chk kd (acOf kd) n fo fn (fr, fw, wc)) = rc
            exact absurd (chk_uniq hn (chk_ok hn _) hCk) h11
        · -- case 4
          have h5 : oo = 4 := Int32.toInt_inj.mp (by rw [h5]; decide)
          subst h5
          refine lv_tableIn (tgt := 168) (off := 126) hx hb d_Law_law_42 (by decide) (by decide) (by decide +kernel) (by decide) ?_
          refine lv_aload_n hx hb d_Law_law_168 rfl (lv_at hl 2 rfl) ?_
          refine lv_aload_n hx hb d_Law_law_169 rfl (lv_at hl 3 rfl) ?_
          refine lv_iload_n hx hb d_Law_law_170 rfl (lv_at hl 0 rfl) ?_
          refine lv_iconst (v := 1) hx hb d_Law_law_171 (by decide) ?_
          refine lv_iadd hx hb d_Law_law_172 ?_
          refine lv_eqi (y := (nI (j + 1))) (nI_1 j) ?_
          refine va_ti (v := .int (xs (j + 1))) hx hb hTX hS (vp_in_nI (by omega) (by omega)) (by show Value.int (xs (nI (j + 1)).toNatClampNeg) = _; rw [nI_clamp (show (j + 1) < 2 ^ 31 by omega)]) d_Law_law_173 ?_
          have hPc := hP.sub (ws' := [(q1, .inr (0, [.ref pr, .ref wy, .ref mc])), (pr, .inr (1, [.int kd, .int (nI n), .int (acOf kd), .ref po, .ref pn])), (po, .inl (cI, 64, .inl fo)), (pn, .inl (cI, 64, .inl fn)), (wy, .inr (2, [.ref re, .ref wa, .int wc])), (re, .inl (cI, 64, .inl fr)), (wa, .inl (cI, 576, .inl fw))]) [0, 1, 2, 3, 4, 5, 6] rfl
          have hDc := hD.sub (ws' := [(q1, .inr (0, [.ref pr, .ref wy, .ref mc])), (pr, .inr (1, [.int kd, .int (nI n), .int (acOf kd), .ref po, .ref pn])), (po, .inl (cI, 64, .inl fo)), (pn, .inl (cI, 64, .inl fn)), (wy, .inr (2, [.ref re, .ref wa, .int wc])), (re, .inl (cI, 64, .inl fr)), (wa, .inl (cI, 576, .inl fw))]) [0, 1, 2, 3, 4, 5, 6] (by decide) rfl
          have hFc := va_free (wc := [(q1, .inr (0, [.ref pr, .ref wy, .ref mc])), (pr, .inr (1, [.int kd, .int (nI n), .int (acOf kd), .ref po, .ref pn])), (po, .inl (cI, 64, .inl fo)), (pn, .inl (cI, 64, .inl fn)), (wy, .inr (2, [.ref re, .ref wa, .int wc])), (re, .inl (cI, 64, .inl fr)), (wa, .inl (cI, 576, .inl fw))]) hD hS hA [0, 1, 2, 3, 4, 5, 6] rfl
          refine va_calli (va_runV (As := [.int (xs (j + 1))]) (rest := []) ⟨hx, hb, hml, hown, hts⟩ (c_SJ_heights l D cI cZ tN tG H.size q1 wy mc pr po pn kd (acOf kd) n fo fn re wa fr fw wc (xs (j + 1))) (cwV 1 hts (gd4 k_243 k_244 k_245 k_18 k_246) rfl rfl rfl (by decide +kernel) ⟨Nat.le_of_ble_eq_true rfl, Nat.le_of_ble_eq_true rfl⟩) ⟨MZ_blind, va_recv (q0 := 0) (ci := 0) hE.1 hP rfl rfl, mz_pre hE hZ hS hPc hDc hFc⟩ rfl rfl hl.1 rfl (lv_room (Nat.le_of_ble_eq_true rfl)) d_Law_law_174 ⟨Nat.le_of_ble_eq_true rfl, Nat.le_of_ble_eq_true rfl⟩) hS (fun q _ h => hFc q h) hFc (fun r u t H1 locs ht hvm hw hB hz1 hk1 hS => ?_)
          obtain ⟨hP1, hD1⟩ := hB
          rw [ht] at hP1
          have hr1 := congrArg Prod.fst hw
          have hu1 := congrArg Prod.snd hw
          dsimp only at hr1 hu1
          subst hr1
          subst hu1
          obtain ⟨hP, hD⟩ := va_join (wr := [(mc, .inr (3, [.int res, .int stp, .int (nI pp), .ref ky, .ref vy, .ref gy, .ref ly, .ref sy, .int hgt, .int ap])), (ky, .inl (cI, 20, .inl fk)), (vy, .inl (cI, 20, .inl fv)), (gy, .inl (cI, 3, .inl fa)), (ly, .inl (cI, 4, .inl fl)), (sy, .inl (cI, 8, .inl fs)), (q2, .inr (4, [.int kd, .ref mp, .ref mq, .int (nI n), .ref mr, .ref mw, .ref mt, .ref ml, .ref mk, .ref mv, .int (nI pp), .int stp, .int res])), (mp, .inl (cI, 64, .inl fo)), (mq, .inl (cI, 64, .inl fn)), (mr, .inl (cI, 576, .inl fR)), (mw, .inl (cZ, 64, .inl fW)), (mt, .inl (cI, 8, .inl fs)), (ml, .inl (cI, 4, .inl gl)), (mk, .inl (cI, 20, .inl fk)), (mv, .inl (cI, 20, .inl fv))]) (w1 := [(q1, .inr (0, [.ref pr, .ref wy, .ref mc])), (pr, .inr (1, [.int kd, .int (nI n), .int (acOf kd), .ref po, .ref pn])), (po, .inl (cI, 64, .inl fo)), (pn, .inl (cI, 64, .inl fn)), (wy, .inr (2, [.ref re, .ref wa, .int ((j_hgt kd (acOf kd) n fo fn (xs (j + 1)) (fr, fw, wc)).2.2.2)])), (re, .inl (cI, 64, .inl ((j_hgt kd (acOf kd) n fo fn (xs (j + 1)) (fr, fw, wc)).2.1))), (wa, .inl (cI, 576, .inl ((j_hgt kd (acOf kd) n fo fn (xs (j + 1)) (fr, fw, wc)).2.2.1)))]) hP hD [0, 1, 2, 3, 4, 5, 6] [7, 8, 9, 10, 11, 12, 13, 14, 15, 16, 17, 18, 19, 20, 21] rfl rfl (by decide) (by decide) hk1 hFc hP1 hD1
          generalize H1 = H at hP hS ⊢
          have hP : va_P D classes [(mc, .inr (3, [.int res, .int stp, .int (nI pp), .ref ky, .ref vy, .ref gy, .ref ly, .ref sy, .int hgt, .int ap])), (ky, .inl (cI, 20, .inl fk)), (vy, .inl (cI, 20, .inl fv)), (gy, .inl (cI, 3, .inl fa)), (ly, .inl (cI, 4, .inl fl)), (sy, .inl (cI, 8, .inl fs)), (q2, .inr (4, [.int kd, .ref mp, .ref mq, .int (nI n), .ref mr, .ref mw, .ref mt, .ref ml, .ref mk, .ref mv, .int (nI pp), .int stp, .int res])), (mp, .inl (cI, 64, .inl fo)), (mq, .inl (cI, 64, .inl fn)), (mr, .inl (cI, 576, .inl fR)), (mw, .inl (cZ, 64, .inl fW)), (mt, .inl (cI, 8, .inl fs)), (ml, .inl (cI, 4, .inl gl)), (mk, .inl (cI, 20, .inl fk)), (mv, .inl (cI, 20, .inl fv)), (q1, .inr (0, [.ref pr, .ref wy, .ref mc])), (pr, .inr (1, [.int kd, .int (nI n), .int (acOf kd), .ref po, .ref pn])), (po, .inl (cI, 64, .inl fo)), (pn, .inl (cI, 64, .inl fn)), (wy, .inr (2, [.ref re, .ref wa, .int ((j_hgt kd (acOf kd) n fo fn (xs (j + 1)) (fr, fw, wc)).2.2.2)])), (re, .inl (cI, 64, .inl ((j_hgt kd (acOf kd) n fo fn (xs (j + 1)) (fr, fw, wc)).2.1))), (wa, .inl (cI, 576, .inl ((j_hgt kd (acOf kd) n fo fn (xs (j + 1)) (fr, fw, wc)).2.2.1)))] H := hP
          have hD : va_D A [(mc, .inr (3, [.int res, .int stp, .int (nI pp), .ref ky, .ref vy, .ref gy, .ref ly, .ref sy, .int hgt, .int ap])), (ky, .inl (cI, 20, .inl fk)), (vy, .inl (cI, 20, .inl fv)), (gy, .inl (cI, 3, .inl fa)), (ly, .inl (cI, 4, .inl fl)), (sy, .inl (cI, 8, .inl fs)), (q2, .inr (4, [.int kd, .ref mp, .ref mq, .int (nI n), .ref mr, .ref mw, .ref mt, .ref ml, .ref mk, .ref mv, .int (nI pp), .int stp, .int res])), (mp, .inl (cI, 64, .inl fo)), (mq, .inl (cI, 64, .inl fn)), (mr, .inl (cI, 576, .inl fR)), (mw, .inl (cZ, 64, .inl fW)), (mt, .inl (cI, 8, .inl fs)), (ml, .inl (cI, 4, .inl gl)), (mk, .inl (cI, 20, .inl fk)), (mv, .inl (cI, 20, .inl fv)), (q1, .inr (0, [.ref pr, .ref wy, .ref mc])), (pr, .inr (1, [.int kd, .int (nI n), .int (acOf kd), .ref po, .ref pn])), (po, .inl (cI, 64, .inl fo)), (pn, .inl (cI, 64, .inl fn)), (wy, .inr (2, [.ref re, .ref wa, .int ((j_hgt kd (acOf kd) n fo fn (xs (j + 1)) (fr, fw, wc)).2.2.2)])), (re, .inl (cI, 64, .inl ((j_hgt kd (acOf kd) n fo fn (xs (j + 1)) (fr, fw, wc)).2.1))), (wa, .inl (cI, 576, .inl ((j_hgt kd (acOf kd) n fo fn (xs (j + 1)) (fr, fw, wc)).2.2.1)))] := hD
          refine lv_aload_n hx hb d_Law_law_177 rfl (lv_at hl 1 rfl) ?_
          refine lv_aload_n hx hb d_Law_law_178 rfl (lv_at hl 3 rfl) ?_
          refine lv_iload_n hx hb d_Law_law_179 rfl (lv_at hl 0 rfl) ?_
          refine lv_iconst (v := 1) hx hb d_Law_law_180 (by decide) ?_
          refine lv_iadd hx hb d_Law_law_181 ?_
          refine lv_eqi (y := (nI (j + 1))) (nI_1 j) ?_
          refine va_ti (v := .int (xs (j + 1))) hx hb hTX hS (vp_in_nI (by omega) (by omega)) (by show Value.int (xs (nI (j + 1)).toNatClampNeg) = _; rw [nI_clamp (show (j + 1) < 2 ^ 31 by omega)]) d_Law_law_182 ?_
          have hPc := hP.sub (ws' := [(q2, .inr (4, [.int kd, .ref mp, .ref mq, .int (nI n), .ref mr, .ref mw, .ref mt, .ref ml, .ref mk, .ref mv, .int (nI pp), .int stp, .int res])), (mp, .inl (cI, 64, .inl fo)), (mq, .inl (cI, 64, .inl fn)), (mr, .inl (cI, 576, .inl fR)), (mw, .inl (cZ, 64, .inl fW)), (mt, .inl (cI, 8, .inl fs)), (ml, .inl (cI, 4, .inl gl)), (mk, .inl (cI, 20, .inl fk)), (mv, .inl (cI, 20, .inl fv))]) [6, 7, 8, 9, 10, 11, 12, 13, 14] rfl
          have hDc := hD.sub (ws' := [(q2, .inr (4, [.int kd, .ref mp, .ref mq, .int (nI n), .ref mr, .ref mw, .ref mt, .ref ml, .ref mk, .ref mv, .int (nI pp), .int stp, .int res])), (mp, .inl (cI, 64, .inl fo)), (mq, .inl (cI, 64, .inl fn)), (mr, .inl (cI, 576, .inl fR)), (mw, .inl (cZ, 64, .inl fW)), (mt, .inl (cI, 8, .inl fs)), (ml, .inl (cI, 4, .inl gl)), (mk, .inl (cI, 20, .inl fk)), (mv, .inl (cI, 20, .inl fv))]) [6, 7, 8, 9, 10, 11, 12, 13, 14] (by decide) rfl
          have hFc := va_free (wc := [(q2, .inr (4, [.int kd, .ref mp, .ref mq, .int (nI n), .ref mr, .ref mw, .ref mt, .ref ml, .ref mk, .ref mv, .int (nI pp), .int stp, .int res])), (mp, .inl (cI, 64, .inl fo)), (mq, .inl (cI, 64, .inl fn)), (mr, .inl (cI, 576, .inl fR)), (mw, .inl (cZ, 64, .inl fW)), (mt, .inl (cI, 8, .inl fs)), (ml, .inl (cI, 4, .inl gl)), (mk, .inl (cI, 20, .inl fk)), (mv, .inl (cI, 20, .inl fv))]) hD hS hA [6, 7, 8, 9, 10, 11, 12, 13, 14] rfl
          refine va_calli (va_runV (As := [.int (xs (j + 1))]) (rest := [.int ((j_hgt kd (acOf kd) n fo fn (xs (j + 1)) (fr, fw, wc)).1)]) ⟨hx, hb, hml, hown, hts⟩ (c_Model_heights l D cI cZ H.size q2 mp mq mr mw mt ml mk mv kd n fo fn fR fW fs gl fk fv (nI pp) stp res (xs (j + 1)) hk hn) (cwV 1 hts (gd4 k_369 k_370 k_371 k_22 k_372) rfl rfl rfl (by decide +kernel) ⟨Nat.le_of_ble_eq_true rfl, Nat.le_of_ble_eq_true rfl⟩) ⟨MY_blind, va_recv (q0 := 6) (ci := 4) hE.1 hP rfl rfl, my_pre hE hPc hDc⟩ rfl rfl hl.1 rfl (lv_room (Nat.le_of_ble_eq_true rfl)) d_Law_law_183 ⟨Nat.le_of_ble_eq_true rfl, Nat.le_of_ble_eq_true rfl⟩) hS (fun q _ h => hFc q h) hFc (fun r u t H1 locs ht hvm hw hB hz1 hk1 hS => ?_)
          obtain ⟨hP1, hD1⟩ := hB
          rw [ht] at hP1
          obtain ⟨g1, g2⟩ := u
          have hHg := hw
          generalize r = rc at hHg ⊢
          obtain ⟨hP, hD⟩ := va_join (wr := [(mc, .inr (3, [.int res, .int stp, .int (nI pp), .ref ky, .ref vy, .ref gy, .ref ly, .ref sy, .int hgt, .int ap])), (ky, .inl (cI, 20, .inl fk)), (vy, .inl (cI, 20, .inl fv)), (gy, .inl (cI, 3, .inl fa)), (ly, .inl (cI, 4, .inl fl)), (sy, .inl (cI, 8, .inl fs)), (q1, .inr (0, [.ref pr, .ref wy, .ref mc])), (pr, .inr (1, [.int kd, .int (nI n), .int (acOf kd), .ref po, .ref pn])), (po, .inl (cI, 64, .inl fo)), (pn, .inl (cI, 64, .inl fn)), (wy, .inr (2, [.ref re, .ref wa, .int ((j_hgt kd (acOf kd) n fo fn (xs (j + 1)) (fr, fw, wc)).2.2.2)])), (re, .inl (cI, 64, .inl ((j_hgt kd (acOf kd) n fo fn (xs (j + 1)) (fr, fw, wc)).2.1))), (wa, .inl (cI, 576, .inl ((j_hgt kd (acOf kd) n fo fn (xs (j + 1)) (fr, fw, wc)).2.2.1)))]) (w1 := [(q2, .inr (4, [.int kd, .ref mp, .ref mq, .int (nI n), .ref mr, .ref mw, .ref mt, .ref ml, .ref mk, .ref mv, .int (nI pp), .int stp, .int res])), (mp, .inl (cI, 64, .inl fo)), (mq, .inl (cI, 64, .inl fn)), (mr, .inl (cI, 576, .inl g1)), (mw, .inl (cZ, 64, .inl g2)), (mt, .inl (cI, 8, .inl fs)), (ml, .inl (cI, 4, .inl gl)), (mk, .inl (cI, 20, .inl fk)), (mv, .inl (cI, 20, .inl fv))]) hP hD [6, 7, 8, 9, 10, 11, 12, 13, 14] [0, 1, 2, 3, 4, 5, 15, 16, 17, 18, 19, 20, 21] rfl rfl (by decide) (by decide) hk1 hFc hP1 hD1
          generalize H1 = H at hP hS ⊢
          have hP : va_P D classes [(mc, .inr (3, [.int res, .int stp, .int (nI pp), .ref ky, .ref vy, .ref gy, .ref ly, .ref sy, .int hgt, .int ap])), (ky, .inl (cI, 20, .inl fk)), (vy, .inl (cI, 20, .inl fv)), (gy, .inl (cI, 3, .inl fa)), (ly, .inl (cI, 4, .inl fl)), (sy, .inl (cI, 8, .inl fs)), (q1, .inr (0, [.ref pr, .ref wy, .ref mc])), (pr, .inr (1, [.int kd, .int (nI n), .int (acOf kd), .ref po, .ref pn])), (po, .inl (cI, 64, .inl fo)), (pn, .inl (cI, 64, .inl fn)), (wy, .inr (2, [.ref re, .ref wa, .int ((j_hgt kd (acOf kd) n fo fn (xs (j + 1)) (fr, fw, wc)).2.2.2)])), (re, .inl (cI, 64, .inl ((j_hgt kd (acOf kd) n fo fn (xs (j + 1)) (fr, fw, wc)).2.1))), (wa, .inl (cI, 576, .inl ((j_hgt kd (acOf kd) n fo fn (xs (j + 1)) (fr, fw, wc)).2.2.1))), (q2, .inr (4, [.int kd, .ref mp, .ref mq, .int (nI n), .ref mr, .ref mw, .ref mt, .ref ml, .ref mk, .ref mv, .int (nI pp), .int stp, .int res])), (mp, .inl (cI, 64, .inl fo)), (mq, .inl (cI, 64, .inl fn)), (mr, .inl (cI, 576, .inl g1)), (mw, .inl (cZ, 64, .inl g2)), (mt, .inl (cI, 8, .inl fs)), (ml, .inl (cI, 4, .inl gl)), (mk, .inl (cI, 20, .inl fk)), (mv, .inl (cI, 20, .inl fv))] H := hP
          have hD : va_D A [(mc, .inr (3, [.int res, .int stp, .int (nI pp), .ref ky, .ref vy, .ref gy, .ref ly, .ref sy, .int hgt, .int ap])), (ky, .inl (cI, 20, .inl fk)), (vy, .inl (cI, 20, .inl fv)), (gy, .inl (cI, 3, .inl fa)), (ly, .inl (cI, 4, .inl fl)), (sy, .inl (cI, 8, .inl fs)), (q1, .inr (0, [.ref pr, .ref wy, .ref mc])), (pr, .inr (1, [.int kd, .int (nI n), .int (acOf kd), .ref po, .ref pn])), (po, .inl (cI, 64, .inl fo)), (pn, .inl (cI, 64, .inl fn)), (wy, .inr (2, [.ref re, .ref wa, .int ((j_hgt kd (acOf kd) n fo fn (xs (j + 1)) (fr, fw, wc)).2.2.2)])), (re, .inl (cI, 64, .inl ((j_hgt kd (acOf kd) n fo fn (xs (j + 1)) (fr, fw, wc)).2.1))), (wa, .inl (cI, 576, .inl ((j_hgt kd (acOf kd) n fo fn (xs (j + 1)) (fr, fw, wc)).2.2.1))), (q2, .inr (4, [.int kd, .ref mp, .ref mq, .int (nI n), .ref mr, .ref mw, .ref mt, .ref ml, .ref mk, .ref mv, .int (nI pp), .int stp, .int res])), (mp, .inl (cI, 64, .inl fo)), (mq, .inl (cI, 64, .inl fn)), (mr, .inl (cI, 576, .inl g1)), (mw, .inl (cZ, 64, .inl g2)), (mt, .inl (cI, 8, .inl fs)), (ml, .inl (cI, 4, .inl gl)), (mk, .inl (cI, 20, .inl fk)), (mv, .inl (cI, 20, .inl fv))] := hD
          refine lv_icmp_eq (tgt := 307) hx hb d_Law_law_186 (by decide) (fun h12 => ?_) (fun h12 => ?_)
          · -- (j_hgt kd (acOf kd) n fo fn (xs (j + 1)) (fr, fw, wc)).1 = rc
            refine lv_iinc (v := ((nI j) + 4)) (k := 0) hx hb d_Law_law_307 hl rfl rfl (by decide) rfl (fun ls hl => ?_)
            have hl : lv_has ls 4 [(3, .int ((nI j) + 4)), (2, .ref q2), (1, .ref q1), (0, .ref b)] := hl
            refine lv_goto (tgt := 28) hx hb d_Law_law_310 (by decide) ?_
            rw [show nI j + 4 = nI (j + 4) from nI_add j 4] at hl
            exact ih (j + 4) n pp _ _ _ _ _ _ _ _ _ _ _ _ _ _ _ _ _ _ _ _ (by omega) (by omega) (lv_sub hl [0, 1, 2, 3] rfl) (hP.sub [6, 7, 8, 9, 10, 11, 12, 0, 1, 2, 3, 4, 5, 13, 14, 15, 16, 17, 18, 19, 20, 21] rfl) (hD.sub [6, 7, 8, 9, 10, 11, 12, 0, 1, 2, 3, 4, 5, 13, 14, 15, 16, 17, 18, 19, 20, 21] (by decide) rfl) (by omega) (by omega) hS
          · -- ¬ (j_hgt kd (acOf kd) n fo fn (xs (j + 1)) (fr, fw, wc)).1 = rc
            exact absurd (hgt_uniq hn (hgt_ok hn _ _) hHg) h12
        · -- case 5
          have h5 : oo = 5 := Int32.toInt_inj.mp (by rw [h5]; decide)
          subst h5
          refine lv_tableIn (tgt := 191) (off := 149) hx hb d_Law_law_42 (by decide) (by decide) (by decide +kernel) (by decide) ?_
          by_cases hgd : j_chk kd (acOf kd) n fo fn (fr, fw, wc) = -2
          · -- GOOD
            refine lv_aload_n hx hb d_Law_law_191 rfl (lv_at hl 2 rfl) ?_
            refine lv_aload_n hx hb d_Law_law_192 rfl (lv_at hl 3 rfl) ?_
            refine lv_iload_n hx hb d_Law_law_193 rfl (lv_at hl 0 rfl) ?_
            refine lv_iconst (v := 1) hx hb d_Law_law_194 (by decide) ?_
            refine lv_iadd hx hb d_Law_law_195 ?_
            refine lv_eqi (y := (nI (j + 1))) (nI_1 j) ?_
            refine va_ti (v := .int (xs (j + 1))) hx hb hTX hS (vp_in_nI (by omega) (by omega)) (by show Value.int (xs (nI (j + 1)).toNatClampNeg) = _; rw [nI_clamp (show (j + 1) < 2 ^ 31 by omega)]) d_Law_law_196 ?_
            refine lv_aload_n hx hb d_Law_law_197 rfl (lv_at hl 3 rfl) ?_
            refine lv_iload_n hx hb d_Law_law_198 rfl (lv_at hl 0 rfl) ?_
            refine lv_iconst (v := 2) hx hb d_Law_law_199 (by decide) ?_
            refine lv_iadd hx hb d_Law_law_200 ?_
            refine lv_eqi (y := (nI (j + 2))) (nI_add j 2) ?_
            refine va_ti (v := .int (xs (j + 2))) hx hb hTX hS (vp_in_nI (by omega) (by omega)) (by show Value.int (xs (nI (j + 2)).toNatClampNeg) = _; rw [nI_clamp (show (j + 2) < 2 ^ 31 by omega)]) d_Law_law_201 ?_
            refine lv_aload_n hx hb d_Law_law_202 rfl (lv_at hl 3 rfl) ?_
            refine lv_iload_n hx hb d_Law_law_203 rfl (lv_at hl 0 rfl) ?_
            refine lv_iconst (v := 3) hx hb d_Law_law_204 (by decide) ?_
            refine lv_iadd hx hb d_Law_law_205 ?_
            refine lv_eqi (y := (nI (j + 3))) (nI_add j 3) ?_
            refine va_ti (v := .int (xs (j + 3))) hx hb hTX hS (vp_in_nI (by omega) (by omega)) (by show Value.int (xs (nI (j + 3)).toNatClampNeg) = _; rw [nI_clamp (show (j + 3) < 2 ^ 31 by omega)]) d_Law_law_206 ?_
            have hPc := hP.sub (ws' := [(q1, .inr (0, [.ref pr, .ref wy, .ref mc])), (pr, .inr (1, [.int kd, .int (nI n), .int (acOf kd), .ref po, .ref pn])), (po, .inl (cI, 64, .inl fo)), (pn, .inl (cI, 64, .inl fn)), (wy, .inr (2, [.ref re, .ref wa, .int wc])), (re, .inl (cI, 64, .inl fr)), (wa, .inl (cI, 576, .inl fw)), (mc, .inr (3, [.int res, .int stp, .int (nI pp), .ref ky, .ref vy, .ref gy, .ref ly, .ref sy, .int hgt, .int ap])), (ky, .inl (cI, 20, .inl fk)), (vy, .inl (cI, 20, .inl fv)), (gy, .inl (cI, 3, .inl fa)), (ly, .inl (cI, 4, .inl fl)), (sy, .inl (cI, 8, .inl fs))]) [0, 1, 2, 3, 4, 5, 6, 7, 8, 9, 10, 11, 12] rfl
            have hDc := hD.sub (ws' := [(q1, .inr (0, [.ref pr, .ref wy, .ref mc])), (pr, .inr (1, [.int kd, .int (nI n), .int (acOf kd), .ref po, .ref pn])), (po, .inl (cI, 64, .inl fo)), (pn, .inl (cI, 64, .inl fn)), (wy, .inr (2, [.ref re, .ref wa, .int wc])), (re, .inl (cI, 64, .inl fr)), (wa, .inl (cI, 576, .inl fw)), (mc, .inr (3, [.int res, .int stp, .int (nI pp), .ref ky, .ref vy, .ref gy, .ref ly, .ref sy, .int hgt, .int ap])), (ky, .inl (cI, 20, .inl fk)), (vy, .inl (cI, 20, .inl fv)), (gy, .inl (cI, 3, .inl fa)), (ly, .inl (cI, 4, .inl fl)), (sy, .inl (cI, 8, .inl fs))]) [0, 1, 2, 3, 4, 5, 6, 7, 8, 9, 10, 11, 12] (by decide) rfl
            have hFc := va_free (wc := [(q1, .inr (0, [.ref pr, .ref wy, .ref mc])), (pr, .inr (1, [.int kd, .int (nI n), .int (acOf kd), .ref po, .ref pn])), (po, .inl (cI, 64, .inl fo)), (pn, .inl (cI, 64, .inl fn)), (wy, .inr (2, [.ref re, .ref wa, .int wc])), (re, .inl (cI, 64, .inl fr)), (wa, .inl (cI, 576, .inl fw)), (mc, .inr (3, [.int res, .int stp, .int (nI pp), .ref ky, .ref vy, .ref gy, .ref ly, .ref sy, .int hgt, .int ap])), (ky, .inl (cI, 20, .inl fk)), (vy, .inl (cI, 20, .inl fv)), (gy, .inl (cI, 3, .inl fa)), (ly, .inl (cI, 4, .inl fl)), (sy, .inl (cI, 8, .inl fs))]) hD hS hA [0, 1, 2, 3, 4, 5, 6, 7, 8, 9, 10, 11, 12] rfl
            refine va_calli (va_runV (As := [.int (xs (j + 1)), .int (xs (j + 2)), .int (xs (j + 3))]) (rest := []) ⟨hx, hb, hml, hown, hts⟩ (c_SJ_call l D cI cZ tN tG H.size q1 wy pr po pn kd (acOf kd) n fo fn re wa fr fw wc mc ky vy gy ly sy res stp (nI pp) fk fv fa fl fs hgt ap (xs (j + 1)) (xs (j + 2)) (xs (j + 3)) hn) (cwV 3 hts (gd4 k_249 k_250 k_251 k_18 k_252) rfl rfl rfl (by decide +kernel) ⟨Nat.le_of_ble_eq_true rfl, Nat.le_of_ble_eq_true rfl⟩) ⟨MZ_blind, va_recv (q0 := 0) (ci := 0) hE.1 hP rfl rfl, mz_pre hE hZ hS hPc hDc hFc⟩ rfl rfl hl.1 rfl (lv_room (Nat.le_of_ble_eq_true rfl)) d_Law_law_207 ⟨Nat.le_of_ble_eq_true rfl, Nat.le_of_ble_eq_true rfl⟩) hS (fun q _ h => hFc q h) hFc (fun r u t H1 locs ht hvm hw hB hz1 hk1 hS => ?_)
            obtain ⟨hP1, hD1⟩ := hB
            rw [ht] at hP1
            have hw2 := hw.trans (if_pos hgd)
            obtain ⟨p2, hp2, ep2⟩ := run_pcn kd fo fn (xs (j + 1)) (xs (j + 2)) (xs (j + 3)) (res, stp, (nI pp), fk, fv, fa, fl, fs, hgt, ap)
            rcases hmr : m_run kd fo fn (xs (j + 1)) (xs (j + 2)) (xs (j + 3)) (res, stp, (nI pp), fk, fv, fa, fl, fs, hgt, ap) with ⟨ro, w1, w2, w3, w4, w5, w6, w7, w8, w9, w10⟩
            rw [hmr] at hw2 ep2
            have ep2 : w3 = nI p2 := ep2
            subst ep2
            obtain ⟨hr1, hw1⟩ := Prod.mk.inj hw2
            clear hw hw2
            have hr1 : ro = r := hr1.symm
            subst hr1
            subst hw1
            obtain ⟨hP, hD⟩ := va_join (wr := [(q2, .inr (4, [.int kd, .ref mp, .ref mq, .int (nI n), .ref mr, .ref mw, .ref mt, .ref ml, .ref mk, .ref mv, .int (nI pp), .int stp, .int res])), (mp, .inl (cI, 64, .inl fo)), (mq, .inl (cI, 64, .inl fn)), (mr, .inl (cI, 576, .inl fR)), (mw, .inl (cZ, 64, .inl fW)), (mt, .inl (cI, 8, .inl fs)), (ml, .inl (cI, 4, .inl gl)), (mk, .inl (cI, 20, .inl fk)), (mv, .inl (cI, 20, .inl fv))]) (w1 := [(q1, .inr (0, [.ref pr, .ref wy, .ref mc])), (pr, .inr (1, [.int kd, .int (nI n), .int (acOf kd), .ref po, .ref pn])), (po, .inl (cI, 64, .inl fo)), (pn, .inl (cI, 64, .inl fn)), (wy, .inr (2, [.ref re, .ref wa, .int ((j_fol kd (acOf kd) n fo fn (fr, fw, wc)).2.2)])), (re, .inl (cI, 64, .inl ((j_fol kd (acOf kd) n fo fn (fr, fw, wc)).1))), (wa, .inl (cI, 576, .inl ((j_fol kd (acOf kd) n fo fn (fr, fw, wc)).2.1))), (mc, .inr (3, [.int w1, .int w2, .int (nI p2), .ref ky, .ref vy, .ref gy, .ref ly, .ref sy, .int w9, .int w10])), (ky, .inl (cI, 20, .inl w4)), (vy, .inl (cI, 20, .inl w5)), (gy, .inl (cI, 3, .inl w6)), (ly, .inl (cI, 4, .inl w7)), (sy, .inl (cI, 8, .inl w8))]) hP hD [0, 1, 2, 3, 4, 5, 6, 7, 8, 9, 10, 11, 12] [13, 14, 15, 16, 17, 18, 19, 20, 21] rfl rfl (by decide) (by decide) hk1 hFc hP1 hD1
            generalize H1 = H at hP hS ⊢
            have hP : va_P D classes [(q2, .inr (4, [.int kd, .ref mp, .ref mq, .int (nI n), .ref mr, .ref mw, .ref mt, .ref ml, .ref mk, .ref mv, .int (nI pp), .int stp, .int res])), (mp, .inl (cI, 64, .inl fo)), (mq, .inl (cI, 64, .inl fn)), (mr, .inl (cI, 576, .inl fR)), (mw, .inl (cZ, 64, .inl fW)), (mt, .inl (cI, 8, .inl fs)), (ml, .inl (cI, 4, .inl gl)), (mk, .inl (cI, 20, .inl fk)), (mv, .inl (cI, 20, .inl fv)), (q1, .inr (0, [.ref pr, .ref wy, .ref mc])), (pr, .inr (1, [.int kd, .int (nI n), .int (acOf kd), .ref po, .ref pn])), (po, .inl (cI, 64, .inl fo)), (pn, .inl (cI, 64, .inl fn)), (wy, .inr (2, [.ref re, .ref wa, .int ((j_fol kd (acOf kd) n fo fn (fr, fw, wc)).2.2)])), (re, .inl (cI, 64, .inl ((j_fol kd (acOf kd) n fo fn (fr, fw, wc)).1))), (wa, .inl (cI, 576, .inl ((j_fol kd (acOf kd) n fo fn (fr, fw, wc)).2.1))), (mc, .inr (3, [.int w1, .int w2, .int (nI p2), .ref ky, .ref vy, .ref gy, .ref ly, .ref sy, .int w9, .int w10])), (ky, .inl (cI, 20, .inl w4)), (vy, .inl (cI, 20, .inl w5)), (gy, .inl (cI, 3, .inl w6)), (ly, .inl (cI, 4, .inl w7)), (sy, .inl (cI, 8, .inl w8))] H := hP
            have hD : va_D A [(q2, .inr (4, [.int kd, .ref mp, .ref mq, .int (nI n), .ref mr, .ref mw, .ref mt, .ref ml, .ref mk, .ref mv, .int (nI pp), .int stp, .int res])), (mp, .inl (cI, 64, .inl fo)), (mq, .inl (cI, 64, .inl fn)), (mr, .inl (cI, 576, .inl fR)), (mw, .inl (cZ, 64, .inl fW)), (mt, .inl (cI, 8, .inl fs)), (ml, .inl (cI, 4, .inl gl)), (mk, .inl (cI, 20, .inl fk)), (mv, .inl (cI, 20, .inl fv)), (q1, .inr (0, [.ref pr, .ref wy, .ref mc])), (pr, .inr (1, [.int kd, .int (nI n), .int (acOf kd), .ref po, .ref pn])), (po, .inl (cI, 64, .inl fo)), (pn, .inl (cI, 64, .inl fn)), (wy, .inr (2, [.ref re, .ref wa, .int ((j_fol kd (acOf kd) n fo fn (fr, fw, wc)).2.2)])), (re, .inl (cI, 64, .inl ((j_fol kd (acOf kd) n fo fn (fr, fw, wc)).1))), (wa, .inl (cI, 576, .inl ((j_fol kd (acOf kd) n fo fn (fr, fw, wc)).2.1))), (mc, .inr (3, [.int w1, .int w2, .int (nI p2), .ref ky, .ref vy, .ref gy, .ref ly, .ref sy, .int w9, .int w10])), (ky, .inl (cI, 20, .inl w4)), (vy, .inl (cI, 20, .inl w5)), (gy, .inl (cI, 3, .inl w6)), (ly, .inl (cI, 4, .inl w7)), (sy, .inl (cI, 8, .inl w8))] := hD
            refine lv_aload_n hx hb d_Law_law_210 rfl (lv_at hl 1 rfl) ?_
            refine lv_aload_n hx hb d_Law_law_211 rfl (lv_at hl 3 rfl) ?_
            refine lv_iload_n hx hb d_Law_law_212 rfl (lv_at hl 0 rfl) ?_
            refine lv_iconst (v := 1) hx hb d_Law_law_213 (by decide) ?_
            refine lv_iadd hx hb d_Law_law_214 ?_
            refine lv_eqi (y := (nI (j + 1))) (nI_1 j) ?_
            refine va_ti (v := .int (xs (j + 1))) hx hb hTX hS (vp_in_nI (by omega) (by omega)) (by show Value.int (xs (nI (j + 1)).toNatClampNeg) = _; rw [nI_clamp (show (j + 1) < 2 ^ 31 by omega)]) d_Law_law_215 ?_
            refine lv_aload_n hx hb d_Law_law_216 rfl (lv_at hl 3 rfl) ?_
            refine lv_iload_n hx hb d_Law_law_217 rfl (lv_at hl 0 rfl) ?_
            refine lv_iconst (v := 2) hx hb d_Law_law_218 (by decide) ?_
            refine lv_iadd hx hb d_Law_law_219 ?_
            refine lv_eqi (y := (nI (j + 2))) (nI_add j 2) ?_
            refine va_ti (v := .int (xs (j + 2))) hx hb hTX hS (vp_in_nI (by omega) (by omega)) (by show Value.int (xs (nI (j + 2)).toNatClampNeg) = _; rw [nI_clamp (show (j + 2) < 2 ^ 31 by omega)]) d_Law_law_220 ?_
            refine lv_aload_n hx hb d_Law_law_221 rfl (lv_at hl 3 rfl) ?_
            refine lv_iload_n hx hb d_Law_law_222 rfl (lv_at hl 0 rfl) ?_
            refine lv_iconst (v := 3) hx hb d_Law_law_223 (by decide) ?_
            refine lv_iadd hx hb d_Law_law_224 ?_
            refine lv_eqi (y := (nI (j + 3))) (nI_add j 3) ?_
            refine va_ti (v := .int (xs (j + 3))) hx hb hTX hS (vp_in_nI (by omega) (by omega)) (by show Value.int (xs (nI (j + 3)).toNatClampNeg) = _; rw [nI_clamp (show (j + 3) < 2 ^ 31 by omega)]) d_Law_law_225 ?_
            have hPc := hP.sub (ws' := [(q2, .inr (4, [.int kd, .ref mp, .ref mq, .int (nI n), .ref mr, .ref mw, .ref mt, .ref ml, .ref mk, .ref mv, .int (nI pp), .int stp, .int res])), (mp, .inl (cI, 64, .inl fo)), (mq, .inl (cI, 64, .inl fn)), (mr, .inl (cI, 576, .inl fR)), (mw, .inl (cZ, 64, .inl fW)), (mt, .inl (cI, 8, .inl fs)), (ml, .inl (cI, 4, .inl gl)), (mk, .inl (cI, 20, .inl fk)), (mv, .inl (cI, 20, .inl fv))]) [0, 1, 2, 3, 4, 5, 6, 7, 8] rfl
            have hDc := hD.sub (ws' := [(q2, .inr (4, [.int kd, .ref mp, .ref mq, .int (nI n), .ref mr, .ref mw, .ref mt, .ref ml, .ref mk, .ref mv, .int (nI pp), .int stp, .int res])), (mp, .inl (cI, 64, .inl fo)), (mq, .inl (cI, 64, .inl fn)), (mr, .inl (cI, 576, .inl fR)), (mw, .inl (cZ, 64, .inl fW)), (mt, .inl (cI, 8, .inl fs)), (ml, .inl (cI, 4, .inl gl)), (mk, .inl (cI, 20, .inl fk)), (mv, .inl (cI, 20, .inl fv))]) [0, 1, 2, 3, 4, 5, 6, 7, 8] (by decide) rfl
            have hFc := va_free (wc := [(q2, .inr (4, [.int kd, .ref mp, .ref mq, .int (nI n), .ref mr, .ref mw, .ref mt, .ref ml, .ref mk, .ref mv, .int (nI pp), .int stp, .int res])), (mp, .inl (cI, 64, .inl fo)), (mq, .inl (cI, 64, .inl fn)), (mr, .inl (cI, 576, .inl fR)), (mw, .inl (cZ, 64, .inl fW)), (mt, .inl (cI, 8, .inl fs)), (ml, .inl (cI, 4, .inl gl)), (mk, .inl (cI, 20, .inl fk)), (mv, .inl (cI, 20, .inl fv))]) hD hS hA [0, 1, 2, 3, 4, 5, 6, 7, 8] rfl
            refine va_calli (va_runV (As := [.int (xs (j + 1)), .int (xs (j + 2)), .int (xs (j + 3))]) (rest := [.int ro]) ⟨hx, hb, hml, hown, hts⟩ (c_Model_call l D cI cZ H.size q2 mp mq mr mw mt ml mk mv kd n fo fn fR fW fs gl fk fv (nI pp) stp res (faOf fa (xs (j + 1)) (xs (j + 2)) (xs (j + 3))) (xs (j + 1)) (xs (j + 2)) (xs (j + 3)) hk hn (faOf_ok fa (xs (j + 1)) (xs (j + 2)) (xs (j + 3)))) (cwV 3 hts (gd4 k_400 k_401 k_402 k_22 k_403) rfl rfl rfl (by decide +kernel) ⟨Nat.le_of_ble_eq_true rfl, Nat.le_of_ble_eq_true rfl⟩) ⟨MY_blind, va_recv (q0 := 0) (ci := 4) hE.1 hP rfl rfl, my_pre hE hPc hDc⟩ rfl rfl hl.1 rfl (lv_room (Nat.le_of_ble_eq_true rfl)) d_Law_law_226 ⟨Nat.le_of_ble_eq_true rfl, Nat.le_of_ble_eq_true rfl⟩) hS (fun q _ h => hFc q h) hFc (fun r u t H1 locs ht hvm hw hB hz1 hk1 hS => ?_)
            obtain ⟨hP1, hD1⟩ := hB
            rw [ht] at hP1
            obtain ⟨⟨g1, g2⟩, v1, v2, v3, v4, v5, v6, v7⟩ := u
            obtain ⟨rc, hCk, hCs⟩ := hw
            have hrc := chk_uniq hn (chk_ok hn (fr, fw, wc)) hCk
            obtain ⟨-, hgt2, ap2, hM⟩ := hCs.resolve_left (fun q => q.1 (hrc.symm.trans hgd))
            have e0 := (hmr.symm.trans run_eq).trans hM
            simp only [Prod.mk.injEq] at e0
            obtain ⟨e1, e2, e3, e4, e5, e6, e7, e8, e9, e10, e11⟩ := e0
            subst e1
            subst e2
            subst e3
            subst e4
            subst e5
            subst e6
            subst e8
            subst e9
            obtain ⟨hP, hD⟩ := va_join (wr := [(q1, .inr (0, [.ref pr, .ref wy, .ref mc])), (pr, .inr (1, [.int kd, .int (nI n), .int (acOf kd), .ref po, .ref pn])), (po, .inl (cI, 64, .inl fo)), (pn, .inl (cI, 64, .inl fn)), (wy, .inr (2, [.ref re, .ref wa, .int ((j_fol kd (acOf kd) n fo fn (fr, fw, wc)).2.2)])), (re, .inl (cI, 64, .inl ((j_fol kd (acOf kd) n fo fn (fr, fw, wc)).1))), (wa, .inl (cI, 576, .inl ((j_fol kd (acOf kd) n fo fn (fr, fw, wc)).2.1))), (mc, .inr (3, [.int w1, .int w2, .int (nI p2), .ref ky, .ref vy, .ref gy, .ref ly, .ref sy, .int w9, .int w10])), (ky, .inl (cI, 20, .inl w4)), (vy, .inl (cI, 20, .inl w5)), (gy, .inl (cI, 3, .inl w6)), (ly, .inl (cI, 4, .inl w7)), (sy, .inl (cI, 8, .inl w8))]) (w1 := [(q2, .inr (4, [.int kd, .ref mp, .ref mq, .int (nI n), .ref mr, .ref mw, .ref mt, .ref ml, .ref mk, .ref mv, .int (nI p2), .int w2, .int w1])), (mp, .inl (cI, 64, .inl fo)), (mq, .inl (cI, 64, .inl fn)), (mr, .inl (cI, 576, .inl g1)), (mw, .inl (cZ, 64, .inl g2)), (mt, .inl (cI, 8, .inl w8)), (ml, .inl (cI, 4, .inl w7)), (mk, .inl (cI, 20, .inl w4)), (mv, .inl (cI, 20, .inl w5))]) hP hD [0, 1, 2, 3, 4, 5, 6, 7, 8] [9, 10, 11, 12, 13, 14, 15, 16, 17, 18, 19, 20, 21] rfl rfl (by decide) (by decide) hk1 hFc hP1 hD1
            generalize H1 = H at hP hS ⊢
            have hP : va_P D classes [(q1, .inr (0, [.ref pr, .ref wy, .ref mc])), (pr, .inr (1, [.int kd, .int (nI n), .int (acOf kd), .ref po, .ref pn])), (po, .inl (cI, 64, .inl fo)), (pn, .inl (cI, 64, .inl fn)), (wy, .inr (2, [.ref re, .ref wa, .int ((j_fol kd (acOf kd) n fo fn (fr, fw, wc)).2.2)])), (re, .inl (cI, 64, .inl ((j_fol kd (acOf kd) n fo fn (fr, fw, wc)).1))), (wa, .inl (cI, 576, .inl ((j_fol kd (acOf kd) n fo fn (fr, fw, wc)).2.1))), (mc, .inr (3, [.int w1, .int w2, .int (nI p2), .ref ky, .ref vy, .ref gy, .ref ly, .ref sy, .int w9, .int w10])), (ky, .inl (cI, 20, .inl w4)), (vy, .inl (cI, 20, .inl w5)), (gy, .inl (cI, 3, .inl w6)), (ly, .inl (cI, 4, .inl w7)), (sy, .inl (cI, 8, .inl w8)), (q2, .inr (4, [.int kd, .ref mp, .ref mq, .int (nI n), .ref mr, .ref mw, .ref mt, .ref ml, .ref mk, .ref mv, .int (nI p2), .int w2, .int w1])), (mp, .inl (cI, 64, .inl fo)), (mq, .inl (cI, 64, .inl fn)), (mr, .inl (cI, 576, .inl g1)), (mw, .inl (cZ, 64, .inl g2)), (mt, .inl (cI, 8, .inl w8)), (ml, .inl (cI, 4, .inl w7)), (mk, .inl (cI, 20, .inl w4)), (mv, .inl (cI, 20, .inl w5))] H := hP
            have hD : va_D A [(q1, .inr (0, [.ref pr, .ref wy, .ref mc])), (pr, .inr (1, [.int kd, .int (nI n), .int (acOf kd), .ref po, .ref pn])), (po, .inl (cI, 64, .inl fo)), (pn, .inl (cI, 64, .inl fn)), (wy, .inr (2, [.ref re, .ref wa, .int ((j_fol kd (acOf kd) n fo fn (fr, fw, wc)).2.2)])), (re, .inl (cI, 64, .inl ((j_fol kd (acOf kd) n fo fn (fr, fw, wc)).1))), (wa, .inl (cI, 576, .inl ((j_fol kd (acOf kd) n fo fn (fr, fw, wc)).2.1))), (mc, .inr (3, [.int w1, .int w2, .int (nI p2), .ref ky, .ref vy, .ref gy, .ref ly, .ref sy, .int w9, .int w10])), (ky, .inl (cI, 20, .inl w4)), (vy, .inl (cI, 20, .inl w5)), (gy, .inl (cI, 3, .inl w6)), (ly, .inl (cI, 4, .inl w7)), (sy, .inl (cI, 8, .inl w8)), (q2, .inr (4, [.int kd, .ref mp, .ref mq, .int (nI n), .ref mr, .ref mw, .ref mt, .ref ml, .ref mk, .ref mv, .int (nI p2), .int w2, .int w1])), (mp, .inl (cI, 64, .inl fo)), (mq, .inl (cI, 64, .inl fn)), (mr, .inl (cI, 576, .inl g1)), (mw, .inl (cZ, 64, .inl g2)), (mt, .inl (cI, 8, .inl w8)), (ml, .inl (cI, 4, .inl w7)), (mk, .inl (cI, 20, .inl w4)), (mv, .inl (cI, 20, .inl w5))] := hD
            refine lv_icmp_eq (tgt := 307) hx hb d_Law_law_229 (by decide) (fun h13 => ?_) (fun h13 => ?_)
            · -- ro = ro
              refine lv_iinc (v := ((nI j) + 4)) (k := 0) hx hb d_Law_law_307 hl rfl rfl (by decide) rfl (fun ls hl => ?_)
              have hl : lv_has ls 4 [(3, .int ((nI j) + 4)), (2, .ref q2), (1, .ref q1), (0, .ref b)] := hl
              refine lv_goto (tgt := 28) hx hb d_Law_law_310 (by decide) ?_
              rw [show nI j + 4 = nI (j + 4) from nI_add j 4] at hl
              exact ih (j + 4) n p2 _ _ _ _ _ _ _ _ _ _ _ _ _ _ _ _ _ _ _ _ (by omega) (by omega) (lv_sub hl [0, 1, 2, 3] rfl) (hP.sub [0, 1, 2, 3, 4, 5, 6, 7, 8, 9, 10, 11, 12, 13, 14, 15, 16, 17, 18, 19, 20, 21] rfl) (hD.sub [0, 1, 2, 3, 4, 5, 6, 7, 8, 9, 10, 11, 12, 13, 14, 15, 16, 17, 18, 19, 20, 21] (by decide) rfl) (by omega) (by omega) hS
            · -- ¬ ro = ro
              exact absurd (rfl) h13
          · -- not
            refine lv_aload_n hx hb d_Law_law_191 rfl (lv_at hl 2 rfl) ?_
            refine lv_aload_n hx hb d_Law_law_192 rfl (lv_at hl 3 rfl) ?_
            refine lv_iload_n hx hb d_Law_law_193 rfl (lv_at hl 0 rfl) ?_
            refine lv_iconst (v := 1) hx hb d_Law_law_194 (by decide) ?_
            refine lv_iadd hx hb d_Law_law_195 ?_
            refine lv_eqi (y := (nI (j + 1))) (nI_1 j) ?_
            refine va_ti (v := .int (xs (j + 1))) hx hb hTX hS (vp_in_nI (by omega) (by omega)) (by show Value.int (xs (nI (j + 1)).toNatClampNeg) = _; rw [nI_clamp (show (j + 1) < 2 ^ 31 by omega)]) d_Law_law_196 ?_
            refine lv_aload_n hx hb d_Law_law_197 rfl (lv_at hl 3 rfl) ?_
            refine lv_iload_n hx hb d_Law_law_198 rfl (lv_at hl 0 rfl) ?_
            refine lv_iconst (v := 2) hx hb d_Law_law_199 (by decide) ?_
            refine lv_iadd hx hb d_Law_law_200 ?_
            refine lv_eqi (y := (nI (j + 2))) (nI_add j 2) ?_
            refine va_ti (v := .int (xs (j + 2))) hx hb hTX hS (vp_in_nI (by omega) (by omega)) (by show Value.int (xs (nI (j + 2)).toNatClampNeg) = _; rw [nI_clamp (show (j + 2) < 2 ^ 31 by omega)]) d_Law_law_201 ?_
            refine lv_aload_n hx hb d_Law_law_202 rfl (lv_at hl 3 rfl) ?_
            refine lv_iload_n hx hb d_Law_law_203 rfl (lv_at hl 0 rfl) ?_
            refine lv_iconst (v := 3) hx hb d_Law_law_204 (by decide) ?_
            refine lv_iadd hx hb d_Law_law_205 ?_
            refine lv_eqi (y := (nI (j + 3))) (nI_add j 3) ?_
            refine va_ti (v := .int (xs (j + 3))) hx hb hTX hS (vp_in_nI (by omega) (by omega)) (by show Value.int (xs (nI (j + 3)).toNatClampNeg) = _; rw [nI_clamp (show (j + 3) < 2 ^ 31 by omega)]) d_Law_law_206 ?_
            have hPc := hP.sub (ws' := [(q1, .inr (0, [.ref pr, .ref wy, .ref mc])), (pr, .inr (1, [.int kd, .int (nI n), .int (acOf kd), .ref po, .ref pn])), (po, .inl (cI, 64, .inl fo)), (pn, .inl (cI, 64, .inl fn)), (wy, .inr (2, [.ref re, .ref wa, .int wc])), (re, .inl (cI, 64, .inl fr)), (wa, .inl (cI, 576, .inl fw)), (mc, .inr (3, [.int res, .int stp, .int (nI pp), .ref ky, .ref vy, .ref gy, .ref ly, .ref sy, .int hgt, .int ap])), (ky, .inl (cI, 20, .inl fk)), (vy, .inl (cI, 20, .inl fv)), (gy, .inl (cI, 3, .inl fa)), (ly, .inl (cI, 4, .inl fl)), (sy, .inl (cI, 8, .inl fs))]) [0, 1, 2, 3, 4, 5, 6, 7, 8, 9, 10, 11, 12] rfl
            have hDc := hD.sub (ws' := [(q1, .inr (0, [.ref pr, .ref wy, .ref mc])), (pr, .inr (1, [.int kd, .int (nI n), .int (acOf kd), .ref po, .ref pn])), (po, .inl (cI, 64, .inl fo)), (pn, .inl (cI, 64, .inl fn)), (wy, .inr (2, [.ref re, .ref wa, .int wc])), (re, .inl (cI, 64, .inl fr)), (wa, .inl (cI, 576, .inl fw)), (mc, .inr (3, [.int res, .int stp, .int (nI pp), .ref ky, .ref vy, .ref gy, .ref ly, .ref sy, .int hgt, .int ap])), (ky, .inl (cI, 20, .inl fk)), (vy, .inl (cI, 20, .inl fv)), (gy, .inl (cI, 3, .inl fa)), (ly, .inl (cI, 4, .inl fl)), (sy, .inl (cI, 8, .inl fs))]) [0, 1, 2, 3, 4, 5, 6, 7, 8, 9, 10, 11, 12] (by decide) rfl
            have hFc := va_free (wc := [(q1, .inr (0, [.ref pr, .ref wy, .ref mc])), (pr, .inr (1, [.int kd, .int (nI n), .int (acOf kd), .ref po, .ref pn])), (po, .inl (cI, 64, .inl fo)), (pn, .inl (cI, 64, .inl fn)), (wy, .inr (2, [.ref re, .ref wa, .int wc])), (re, .inl (cI, 64, .inl fr)), (wa, .inl (cI, 576, .inl fw)), (mc, .inr (3, [.int res, .int stp, .int (nI pp), .ref ky, .ref vy, .ref gy, .ref ly, .ref sy, .int hgt, .int ap])), (ky, .inl (cI, 20, .inl fk)), (vy, .inl (cI, 20, .inl fv)), (gy, .inl (cI, 3, .inl fa)), (ly, .inl (cI, 4, .inl fl)), (sy, .inl (cI, 8, .inl fs))]) hD hS hA [0, 1, 2, 3, 4, 5, 6, 7, 8, 9, 10, 11, 12] rfl
            refine va_calli (va_runV (As := [.int (xs (j + 1)), .int (xs (j + 2)), .int (xs (j + 3))]) (rest := []) ⟨hx, hb, hml, hown, hts⟩ (c_SJ_call l D cI cZ tN tG H.size q1 wy pr po pn kd (acOf kd) n fo fn re wa fr fw wc mc ky vy gy ly sy res stp (nI pp) fk fv fa fl fs hgt ap (xs (j + 1)) (xs (j + 2)) (xs (j + 3)) hn) (cwV 3 hts (gd4 k_249 k_250 k_251 k_18 k_252) rfl rfl rfl (by decide +kernel) ⟨Nat.le_of_ble_eq_true rfl, Nat.le_of_ble_eq_true rfl⟩) ⟨MZ_blind, va_recv (q0 := 0) (ci := 0) hE.1 hP rfl rfl, mz_pre hE hZ hS hPc hDc hFc⟩ rfl rfl hl.1 rfl (lv_room (Nat.le_of_ble_eq_true rfl)) d_Law_law_207 ⟨Nat.le_of_ble_eq_true rfl, Nat.le_of_ble_eq_true rfl⟩) hS (fun q _ h => hFc q h) hFc (fun r u t H1 locs ht hvm hw hB hz1 hk1 hS => ?_)
            obtain ⟨hP1, hD1⟩ := hB
            rw [ht] at hP1
            have hw2 := hw.trans (if_neg hgd)
            obtain ⟨hr1, hw1⟩ := Prod.mk.inj hw2
            clear hw hw2
            subst hr1
            subst hw1
            obtain ⟨hP, hD⟩ := va_join (wr := [(q2, .inr (4, [.int kd, .ref mp, .ref mq, .int (nI n), .ref mr, .ref mw, .ref mt, .ref ml, .ref mk, .ref mv, .int (nI pp), .int stp, .int res])), (mp, .inl (cI, 64, .inl fo)), (mq, .inl (cI, 64, .inl fn)), (mr, .inl (cI, 576, .inl fR)), (mw, .inl (cZ, 64, .inl fW)), (mt, .inl (cI, 8, .inl fs)), (ml, .inl (cI, 4, .inl gl)), (mk, .inl (cI, 20, .inl fk)), (mv, .inl (cI, 20, .inl fv))]) (w1 := [(q1, .inr (0, [.ref pr, .ref wy, .ref mc])), (pr, .inr (1, [.int kd, .int (nI n), .int (acOf kd), .ref po, .ref pn])), (po, .inl (cI, 64, .inl fo)), (pn, .inl (cI, 64, .inl fn)), (wy, .inr (2, [.ref re, .ref wa, .int ((j_fol kd (acOf kd) n fo fn (fr, fw, wc)).2.2)])), (re, .inl (cI, 64, .inl ((j_fol kd (acOf kd) n fo fn (fr, fw, wc)).1))), (wa, .inl (cI, 576, .inl ((j_fol kd (acOf kd) n fo fn (fr, fw, wc)).2.1))), (mc, .inr (3, [.int res, .int stp, .int (nI pp), .ref ky, .ref vy, .ref gy, .ref ly, .ref sy, .int hgt, .int ap])), (ky, .inl (cI, 20, .inl fk)), (vy, .inl (cI, 20, .inl fv)), (gy, .inl (cI, 3, .inl fa)), (ly, .inl (cI, 4, .inl fl)), (sy, .inl (cI, 8, .inl fs))]) hP hD [0, 1, 2, 3, 4, 5, 6, 7, 8, 9, 10, 11, 12] [13, 14, 15, 16, 17, 18, 19, 20, 21] rfl rfl (by decide) (by decide) hk1 hFc hP1 hD1
            generalize H1 = H at hP hS ⊢
            have hP : va_P D classes [(q2, .inr (4, [.int kd, .ref mp, .ref mq, .int (nI n), .ref mr, .ref mw, .ref mt, .ref ml, .ref mk, .ref mv, .int (nI pp), .int stp, .int res])), (mp, .inl (cI, 64, .inl fo)), (mq, .inl (cI, 64, .inl fn)), (mr, .inl (cI, 576, .inl fR)), (mw, .inl (cZ, 64, .inl fW)), (mt, .inl (cI, 8, .inl fs)), (ml, .inl (cI, 4, .inl gl)), (mk, .inl (cI, 20, .inl fk)), (mv, .inl (cI, 20, .inl fv)), (q1, .inr (0, [.ref pr, .ref wy, .ref mc])), (pr, .inr (1, [.int kd, .int (nI n), .int (acOf kd), .ref po, .ref pn])), (po, .inl (cI, 64, .inl fo)), (pn, .inl (cI, 64, .inl fn)), (wy, .inr (2, [.ref re, .ref wa, .int ((j_fol kd (acOf kd) n fo fn (fr, fw, wc)).2.2)])), (re, .inl (cI, 64, .inl ((j_fol kd (acOf kd) n fo fn (fr, fw, wc)).1))), (wa, .inl (cI, 576, .inl ((j_fol kd (acOf kd) n fo fn (fr, fw, wc)).2.1))), (mc, .inr (3, [.int res, .int stp, .int (nI pp), .ref ky, .ref vy, .ref gy, .ref ly, .ref sy, .int hgt, .int ap])), (ky, .inl (cI, 20, .inl fk)), (vy, .inl (cI, 20, .inl fv)), (gy, .inl (cI, 3, .inl fa)), (ly, .inl (cI, 4, .inl fl)), (sy, .inl (cI, 8, .inl fs))] H := hP
            have hD : va_D A [(q2, .inr (4, [.int kd, .ref mp, .ref mq, .int (nI n), .ref mr, .ref mw, .ref mt, .ref ml, .ref mk, .ref mv, .int (nI pp), .int stp, .int res])), (mp, .inl (cI, 64, .inl fo)), (mq, .inl (cI, 64, .inl fn)), (mr, .inl (cI, 576, .inl fR)), (mw, .inl (cZ, 64, .inl fW)), (mt, .inl (cI, 8, .inl fs)), (ml, .inl (cI, 4, .inl gl)), (mk, .inl (cI, 20, .inl fk)), (mv, .inl (cI, 20, .inl fv)), (q1, .inr (0, [.ref pr, .ref wy, .ref mc])), (pr, .inr (1, [.int kd, .int (nI n), .int (acOf kd), .ref po, .ref pn])), (po, .inl (cI, 64, .inl fo)), (pn, .inl (cI, 64, .inl fn)), (wy, .inr (2, [.ref re, .ref wa, .int ((j_fol kd (acOf kd) n fo fn (fr, fw, wc)).2.2)])), (re, .inl (cI, 64, .inl ((j_fol kd (acOf kd) n fo fn (fr, fw, wc)).1))), (wa, .inl (cI, 576, .inl ((j_fol kd (acOf kd) n fo fn (fr, fw, wc)).2.1))), (mc, .inr (3, [.int res, .int stp, .int (nI pp), .ref ky, .ref vy, .ref gy, .ref ly, .ref sy, .int hgt, .int ap])), (ky, .inl (cI, 20, .inl fk)), (vy, .inl (cI, 20, .inl fv)), (gy, .inl (cI, 3, .inl fa)), (ly, .inl (cI, 4, .inl fl)), (sy, .inl (cI, 8, .inl fs))] := hD
            refine lv_aload_n hx hb d_Law_law_210 rfl (lv_at hl 1 rfl) ?_
            refine lv_aload_n hx hb d_Law_law_211 rfl (lv_at hl 3 rfl) ?_
            refine lv_iload_n hx hb d_Law_law_212 rfl (lv_at hl 0 rfl) ?_
            refine lv_iconst (v := 1) hx hb d_Law_law_213 (by decide) ?_
            refine lv_iadd hx hb d_Law_law_214 ?_
            refine lv_eqi (y := (nI (j + 1))) (nI_1 j) ?_
            refine va_ti (v := .int (xs (j + 1))) hx hb hTX hS (vp_in_nI (by omega) (by omega)) (by show Value.int (xs (nI (j + 1)).toNatClampNeg) = _; rw [nI_clamp (show (j + 1) < 2 ^ 31 by omega)]) d_Law_law_215 ?_
            refine lv_aload_n hx hb d_Law_law_216 rfl (lv_at hl 3 rfl) ?_
            refine lv_iload_n hx hb d_Law_law_217 rfl (lv_at hl 0 rfl) ?_
            refine lv_iconst (v := 2) hx hb d_Law_law_218 (by decide) ?_
            refine lv_iadd hx hb d_Law_law_219 ?_
            refine lv_eqi (y := (nI (j + 2))) (nI_add j 2) ?_
            refine va_ti (v := .int (xs (j + 2))) hx hb hTX hS (vp_in_nI (by omega) (by omega)) (by show Value.int (xs (nI (j + 2)).toNatClampNeg) = _; rw [nI_clamp (show (j + 2) < 2 ^ 31 by omega)]) d_Law_law_220 ?_
            refine lv_aload_n hx hb d_Law_law_221 rfl (lv_at hl 3 rfl) ?_
            refine lv_iload_n hx hb d_Law_law_222 rfl (lv_at hl 0 rfl) ?_
            refine lv_iconst (v := 3) hx hb d_Law_law_223 (by decide) ?_
            refine lv_iadd hx hb d_Law_law_224 ?_
            refine lv_eqi (y := (nI (j + 3))) (nI_add j 3) ?_
            refine va_ti (v := .int (xs (j + 3))) hx hb hTX hS (vp_in_nI (by omega) (by omega)) (by show Value.int (xs (nI (j + 3)).toNatClampNeg) = _; rw [nI_clamp (show (j + 3) < 2 ^ 31 by omega)]) d_Law_law_225 ?_
            have hPc := hP.sub (ws' := [(q2, .inr (4, [.int kd, .ref mp, .ref mq, .int (nI n), .ref mr, .ref mw, .ref mt, .ref ml, .ref mk, .ref mv, .int (nI pp), .int stp, .int res])), (mp, .inl (cI, 64, .inl fo)), (mq, .inl (cI, 64, .inl fn)), (mr, .inl (cI, 576, .inl fR)), (mw, .inl (cZ, 64, .inl fW)), (mt, .inl (cI, 8, .inl fs)), (ml, .inl (cI, 4, .inl gl)), (mk, .inl (cI, 20, .inl fk)), (mv, .inl (cI, 20, .inl fv))]) [0, 1, 2, 3, 4, 5, 6, 7, 8] rfl
            have hDc := hD.sub (ws' := [(q2, .inr (4, [.int kd, .ref mp, .ref mq, .int (nI n), .ref mr, .ref mw, .ref mt, .ref ml, .ref mk, .ref mv, .int (nI pp), .int stp, .int res])), (mp, .inl (cI, 64, .inl fo)), (mq, .inl (cI, 64, .inl fn)), (mr, .inl (cI, 576, .inl fR)), (mw, .inl (cZ, 64, .inl fW)), (mt, .inl (cI, 8, .inl fs)), (ml, .inl (cI, 4, .inl gl)), (mk, .inl (cI, 20, .inl fk)), (mv, .inl (cI, 20, .inl fv))]) [0, 1, 2, 3, 4, 5, 6, 7, 8] (by decide) rfl
            have hFc := va_free (wc := [(q2, .inr (4, [.int kd, .ref mp, .ref mq, .int (nI n), .ref mr, .ref mw, .ref mt, .ref ml, .ref mk, .ref mv, .int (nI pp), .int stp, .int res])), (mp, .inl (cI, 64, .inl fo)), (mq, .inl (cI, 64, .inl fn)), (mr, .inl (cI, 576, .inl fR)), (mw, .inl (cZ, 64, .inl fW)), (mt, .inl (cI, 8, .inl fs)), (ml, .inl (cI, 4, .inl gl)), (mk, .inl (cI, 20, .inl fk)), (mv, .inl (cI, 20, .inl fv))]) hD hS hA [0, 1, 2, 3, 4, 5, 6, 7, 8] rfl
            refine va_calli (va_runV (As := [.int (xs (j + 1)), .int (xs (j + 2)), .int (xs (j + 3))]) (rest := [.int (-2)]) ⟨hx, hb, hml, hown, hts⟩ (c_Model_call l D cI cZ H.size q2 mp mq mr mw mt ml mk mv kd n fo fn fR fW fs gl fk fv (nI pp) stp res (faOf fa (xs (j + 1)) (xs (j + 2)) (xs (j + 3))) (xs (j + 1)) (xs (j + 2)) (xs (j + 3)) hk hn (faOf_ok fa (xs (j + 1)) (xs (j + 2)) (xs (j + 3)))) (cwV 3 hts (gd4 k_400 k_401 k_402 k_22 k_403) rfl rfl rfl (by decide +kernel) ⟨Nat.le_of_ble_eq_true rfl, Nat.le_of_ble_eq_true rfl⟩) ⟨MY_blind, va_recv (q0 := 0) (ci := 4) hE.1 hP rfl rfl, my_pre hE hPc hDc⟩ rfl rfl hl.1 rfl (lv_room (Nat.le_of_ble_eq_true rfl)) d_Law_law_226 ⟨Nat.le_of_ble_eq_true rfl, Nat.le_of_ble_eq_true rfl⟩) hS (fun q _ h => hFc q h) hFc (fun r u t H1 locs ht hvm hw hB hz1 hk1 hS => ?_)
            obtain ⟨hP1, hD1⟩ := hB
            rw [ht] at hP1
            obtain ⟨⟨g1, g2⟩, v1, v2, v3, v4, v5, v6, v7⟩ := u
            obtain ⟨rc, hCk, hCs⟩ := hw
            have hrc := chk_uniq hn (chk_ok hn (fr, fw, wc)) hCk
            obtain ⟨-, hr1, hv⟩ := hCs.resolve_right (fun q => hgd (hrc.trans q.1))
            subst hr1
            have hv : (v1, v2, v3, v4, v5, v6, v7) = (res, stp, (nI pp), fk, fv, gl, fs) := hv
            simp only [Prod.mk.injEq] at hv
            obtain ⟨e1, e2, e3, e4, e5, e6, e7⟩ := hv
            have f1 := e1.symm
            clear e1
            subst f1
            have f2 := e2.symm
            clear e2
            subst f2
            have f3 := e3.symm
            clear e3
            subst f3
            have f4 := e4.symm
            clear e4
            subst f4
            have f5 := e5.symm
            clear e5
            subst f5
            have f6 := e6.symm
            clear e6
            subst f6
            have f7 := e7.symm
            clear e7
            subst f7
            obtain ⟨hP, hD⟩ := va_join (wr := [(q1, .inr (0, [.ref pr, .ref wy, .ref mc])), (pr, .inr (1, [.int kd, .int (nI n), .int (acOf kd), .ref po, .ref pn])), (po, .inl (cI, 64, .inl fo)), (pn, .inl (cI, 64, .inl fn)), (wy, .inr (2, [.ref re, .ref wa, .int ((j_fol kd (acOf kd) n fo fn (fr, fw, wc)).2.2)])), (re, .inl (cI, 64, .inl ((j_fol kd (acOf kd) n fo fn (fr, fw, wc)).1))), (wa, .inl (cI, 576, .inl ((j_fol kd (acOf kd) n fo fn (fr, fw, wc)).2.1))), (mc, .inr (3, [.int res, .int stp, .int (nI pp), .ref ky, .ref vy, .ref gy, .ref ly, .ref sy, .int hgt, .int ap])), (ky, .inl (cI, 20, .inl fk)), (vy, .inl (cI, 20, .inl fv)), (gy, .inl (cI, 3, .inl fa)), (ly, .inl (cI, 4, .inl fl)), (sy, .inl (cI, 8, .inl fs))]) (w1 := [(q2, .inr (4, [.int kd, .ref mp, .ref mq, .int (nI n), .ref mr, .ref mw, .ref mt, .ref ml, .ref mk, .ref mv, .int (nI pp), .int stp, .int res])), (mp, .inl (cI, 64, .inl fo)), (mq, .inl (cI, 64, .inl fn)), (mr, .inl (cI, 576, .inl g1)), (mw, .inl (cZ, 64, .inl g2)), (mt, .inl (cI, 8, .inl fs)), (ml, .inl (cI, 4, .inl gl)), (mk, .inl (cI, 20, .inl fk)), (mv, .inl (cI, 20, .inl fv))]) hP hD [0, 1, 2, 3, 4, 5, 6, 7, 8] [9, 10, 11, 12, 13, 14, 15, 16, 17, 18, 19, 20, 21] rfl rfl (by decide) (by decide) hk1 hFc hP1 hD1
            generalize H1 = H at hP hS ⊢
            have hP : va_P D classes [(q1, .inr (0, [.ref pr, .ref wy, .ref mc])), (pr, .inr (1, [.int kd, .int (nI n), .int (acOf kd), .ref po, .ref pn])), (po, .inl (cI, 64, .inl fo)), (pn, .inl (cI, 64, .inl fn)), (wy, .inr (2, [.ref re, .ref wa, .int ((j_fol kd (acOf kd) n fo fn (fr, fw, wc)).2.2)])), (re, .inl (cI, 64, .inl ((j_fol kd (acOf kd) n fo fn (fr, fw, wc)).1))), (wa, .inl (cI, 576, .inl ((j_fol kd (acOf kd) n fo fn (fr, fw, wc)).2.1))), (mc, .inr (3, [.int res, .int stp, .int (nI pp), .ref ky, .ref vy, .ref gy, .ref ly, .ref sy, .int hgt, .int ap])), (ky, .inl (cI, 20, .inl fk)), (vy, .inl (cI, 20, .inl fv)), (gy, .inl (cI, 3, .inl fa)), (ly, .inl (cI, 4, .inl fl)), (sy, .inl (cI, 8, .inl fs)), (q2, .inr (4, [.int kd, .ref mp, .ref mq, .int (nI n), .ref mr, .ref mw, .ref mt, .ref ml, .ref mk, .ref mv, .int (nI pp), .int stp, .int res])), (mp, .inl (cI, 64, .inl fo)), (mq, .inl (cI, 64, .inl fn)), (mr, .inl (cI, 576, .inl g1)), (mw, .inl (cZ, 64, .inl g2)), (mt, .inl (cI, 8, .inl fs)), (ml, .inl (cI, 4, .inl gl)), (mk, .inl (cI, 20, .inl fk)), (mv, .inl (cI, 20, .inl fv))] H := hP
            have hD : va_D A [(q1, .inr (0, [.ref pr, .ref wy, .ref mc])), (pr, .inr (1, [.int kd, .int (nI n), .int (acOf kd), .ref po, .ref pn])), (po, .inl (cI, 64, .inl fo)), (pn, .inl (cI, 64, .inl fn)), (wy, .inr (2, [.ref re, .ref wa, .int ((j_fol kd (acOf kd) n fo fn (fr, fw, wc)).2.2)])), (re, .inl (cI, 64, .inl ((j_fol kd (acOf kd) n fo fn (fr, fw, wc)).1))), (wa, .inl (cI, 576, .inl ((j_fol kd (acOf kd) n fo fn (fr, fw, wc)).2.1))), (mc, .inr (3, [.int res, .int stp, .int (nI pp), .ref ky, .ref vy, .ref gy, .ref ly, .ref sy, .int hgt, .int ap])), (ky, .inl (cI, 20, .inl fk)), (vy, .inl (cI, 20, .inl fv)), (gy, .inl (cI, 3, .inl fa)), (ly, .inl (cI, 4, .inl fl)), (sy, .inl (cI, 8, .inl fs)), (q2, .inr (4, [.int kd, .ref mp, .ref mq, .int (nI n), .ref mr, .ref mw, .ref mt, .ref ml, .ref mk, .ref mv, .int (nI pp), .int stp, .int res])), (mp, .inl (cI, 64, .inl fo)), (mq, .inl (cI, 64, .inl fn)), (mr, .inl (cI, 576, .inl g1)), (mw, .inl (cZ, 64, .inl g2)), (mt, .inl (cI, 8, .inl fs)), (ml, .inl (cI, 4, .inl gl)), (mk, .inl (cI, 20, .inl fk)), (mv, .inl (cI, 20, .inl fv))] := hD
            refine lv_icmp_eq (tgt := 307) hx hb d_Law_law_229 (by decide) (fun h14 => ?_) (fun h14 => ?_)
            · -- (-2) = (-2)
              refine lv_iinc (v := ((nI j) + 4)) (k := 0) hx hb d_Law_law_307 hl rfl rfl (by decide) rfl (fun ls hl => ?_)
              have hl : lv_has ls 4 [(3, .int ((nI j) + 4)), (2, .ref q2), (1, .ref q1), (0, .ref b)] := hl
              refine lv_goto (tgt := 28) hx hb d_Law_law_310 (by decide) ?_
              rw [show nI j + 4 = nI (j + 4) from nI_add j 4] at hl
              exact ih (j + 4) n pp _ _ _ _ _ _ _ _ _ _ _ _ _ _ _ _ _ _ _ _ (by omega) (by omega) (lv_sub hl [0, 1, 2, 3] rfl) (hP.sub [0, 1, 2, 3, 4, 5, 6, 7, 8, 9, 10, 11, 12, 13, 14, 15, 16, 17, 18, 19, 20, 21] rfl) (hD.sub [0, 1, 2, 3, 4, 5, 6, 7, 8, 9, 10, 11, 12, 13, 14, 15, 16, 17, 18, 19, 20, 21] (by decide) rfl) (by omega) (by omega) hS
            · -- ¬ (-2) = (-2)
              exact absurd (rfl) h14
        · -- case 6
          have h5 : oo = 6 := Int32.toInt_inj.mp (by rw [h5]; decide)
          subst h5
          refine lv_tableIn (tgt := 234) (off := 192) hx hb d_Law_law_42 (by decide) (by decide) (by decide +kernel) (by decide) ?_
          refine lv_aload_n hx hb d_Law_law_234 rfl (lv_at hl 2 rfl) ?_
          refine vp_callSi (va_Run.run (va_runV (As := []) (rest := []) ⟨hx, hb, hml, hown, hts⟩ (c_SJ_result l D cI cZ tN tG q1 pr wy mc ky vy gy ly sy res stp (nI pp) fk fv fa fl fs hgt ap) (cwV 0 hts (gd4 k_290 k_291 k_292 k_18 k_293) rfl rfl rfl (by decide +kernel) ⟨Nat.le_of_ble_eq_true rfl, Nat.le_of_ble_eq_true rfl⟩) ⟨PZ_blind, va_recv (q0 := 0) (ci := 0) hE.1 hP rfl rfl, pz_pre hE hZ hS (hP.sub [0, 7, 8, 9, 10, 11, 12] rfl)⟩ rfl rfl hl.1 rfl (lv_room (Nat.le_of_ble_eq_true rfl)) d_Law_law_235 ⟨Nat.le_of_ble_eq_true rfl, Nat.le_of_ble_eq_true rfl⟩)) (fun r hq => ?_)
          have hq := hq.symm
          subst hq
          refine lv_aload_n hx hb d_Law_law_238 rfl (lv_at hl 1 rfl) ?_
          refine vp_callSi (va_Run.run (va_runV (As := []) (rest := [.int res]) ⟨hx, hb, hml, hown, hts⟩ (c_Model_result l D cI cZ q2 mp mq mr mw mt ml mk mv kd n fo fn fR fW fs gl fk fv (nI pp) stp res) (cwV 0 hts (gd4 k_412 k_413 k_414 k_22 k_415) rfl rfl rfl (by decide +kernel) ⟨Nat.le_of_ble_eq_true rfl, Nat.le_of_ble_eq_true rfl⟩) ⟨PY_blind, va_recv (q0 := 13) (ci := 4) hE.1 hP rfl rfl, py_pre hE (hP.sub [13, 14, 15, 16, 17, 18, 19, 20, 21] rfl)⟩ rfl rfl hl.1 rfl (lv_room (Nat.le_of_ble_eq_true rfl)) d_Law_law_239 ⟨Nat.le_of_ble_eq_true rfl, Nat.le_of_ble_eq_true rfl⟩)) (fun r hq => ?_)
          have hq := hq.symm
          subst hq
          refine lv_icmp_eq (tgt := 307) hx hb d_Law_law_242 (by decide) (fun h15 => ?_) (fun h15 => ?_)
          · -- res = res
            refine lv_iinc (v := ((nI j) + 4)) (k := 0) hx hb d_Law_law_307 hl rfl rfl (by decide) rfl (fun ls hl => ?_)
            have hl : lv_has ls 4 [(3, .int ((nI j) + 4)), (2, .ref q2), (1, .ref q1), (0, .ref b)] := hl
            refine lv_goto (tgt := 28) hx hb d_Law_law_310 (by decide) ?_
            rw [show nI j + 4 = nI (j + 4) from nI_add j 4] at hl
            exact ih (j + 4) n pp _ _ _ _ _ _ _ _ _ _ _ _ _ _ _ _ _ _ _ _ (by omega) (by omega) (lv_sub hl [0, 1, 2, 3] rfl) (hP.sub [0, 1, 2, 3, 4, 5, 6, 7, 8, 9, 10, 11, 12, 13, 14, 15, 16, 17, 18, 19, 20, 21] rfl) (hD.sub [0, 1, 2, 3, 4, 5, 6, 7, 8, 9, 10, 11, 12, 13, 14, 15, 16, 17, 18, 19, 20, 21] (by decide) rfl) (by omega) (by omega) hS
          · -- ¬ res = res
            exact absurd (rfl) h15
        · -- case 7
          have h5 : oo = 7 := Int32.toInt_inj.mp (by rw [h5]; decide)
          subst h5
          refine lv_tableIn (tgt := 247) (off := 205) hx hb d_Law_law_42 (by decide) (by decide) (by decide +kernel) (by decide) ?_
          refine lv_aload_n hx hb d_Law_law_247 rfl (lv_at hl 2 rfl) ?_
          refine vp_callSi (va_Run.run (va_runV (As := []) (rest := []) ⟨hx, hb, hml, hown, hts⟩ (c_SJ_steps l D cI cZ tN tG q1 pr wy mc ky vy gy ly sy res stp (nI pp) fk fv fa fl fs hgt ap) (cwV 0 hts (gd4 k_294 k_295 k_296 k_18 k_297) rfl rfl rfl (by decide +kernel) ⟨Nat.le_of_ble_eq_true rfl, Nat.le_of_ble_eq_true rfl⟩) ⟨PZ_blind, va_recv (q0 := 0) (ci := 0) hE.1 hP rfl rfl, pz_pre hE hZ hS (hP.sub [0, 7, 8, 9, 10, 11, 12] rfl)⟩ rfl rfl hl.1 rfl (lv_room (Nat.le_of_ble_eq_true rfl)) d_Law_law_248 ⟨Nat.le_of_ble_eq_true rfl, Nat.le_of_ble_eq_true rfl⟩)) (fun r hq => ?_)
          have hq := hq.symm
          subst hq
          refine lv_aload_n hx hb d_Law_law_251 rfl (lv_at hl 1 rfl) ?_
          refine vp_callSi (va_Run.run (va_runV (As := []) (rest := [.int stp]) ⟨hx, hb, hml, hown, hts⟩ (c_Model_steps l D cI cZ q2 mp mq mr mw mt ml mk mv kd n fo fn fR fW fs gl fk fv (nI pp) stp res) (cwV 0 hts (gd4 k_416 k_417 k_418 k_22 k_419) rfl rfl rfl (by decide +kernel) ⟨Nat.le_of_ble_eq_true rfl, Nat.le_of_ble_eq_true rfl⟩) ⟨PY_blind, va_recv (q0 := 13) (ci := 4) hE.1 hP rfl rfl, py_pre hE (hP.sub [13, 14, 15, 16, 17, 18, 19, 20, 21] rfl)⟩ rfl rfl hl.1 rfl (lv_room (Nat.le_of_ble_eq_true rfl)) d_Law_law_252 ⟨Nat.le_of_ble_eq_true rfl, Nat.le_of_ble_eq_true rfl⟩)) (fun r hq => ?_)
          have hq := hq.symm
          subst hq
          refine lv_icmp_eq (tgt := 307) hx hb d_Law_law_255 (by decide) (fun h16 => ?_) (fun h16 => ?_)
          · -- stp = stp
            refine lv_iinc (v := ((nI j) + 4)) (k := 0) hx hb d_Law_law_307 hl rfl rfl (by decide) rfl (fun ls hl => ?_)
            have hl : lv_has ls 4 [(3, .int ((nI j) + 4)), (2, .ref q2), (1, .ref q1), (0, .ref b)] := hl
            refine lv_goto (tgt := 28) hx hb d_Law_law_310 (by decide) ?_
            rw [show nI j + 4 = nI (j + 4) from nI_add j 4] at hl
            exact ih (j + 4) n pp _ _ _ _ _ _ _ _ _ _ _ _ _ _ _ _ _ _ _ _ (by omega) (by omega) (lv_sub hl [0, 1, 2, 3] rfl) (hP.sub [0, 1, 2, 3, 4, 5, 6, 7, 8, 9, 10, 11, 12, 13, 14, 15, 16, 17, 18, 19, 20, 21] rfl) (hD.sub [0, 1, 2, 3, 4, 5, 6, 7, 8, 9, 10, 11, 12, 13, 14, 15, 16, 17, 18, 19, 20, 21] (by decide) rfl) (by omega) (by omega) hS
          · -- ¬ stp = stp
            exact absurd (rfl) h16
        · -- case 8
          have h5 : oo = 8 := Int32.toInt_inj.mp (by rw [h5]; decide)
          subst h5
          refine lv_tableIn (tgt := 260) (off := 218) hx hb d_Law_law_42 (by decide) (by decide) (by decide +kernel) (by decide) ?_
          refine lv_aload_n hx hb d_Law_law_260 rfl (lv_at hl 2 rfl) ?_
          refine vp_callSi (va_Run.run (va_runV (As := []) (rest := []) ⟨hx, hb, hml, hown, hts⟩ (c_SJ_pairs l D cI cZ tN tG q1 pr wy mc ky vy gy ly sy res stp (nI pp) fk fv fa fl fs hgt ap) (cwV 0 hts (gd4 k_298 k_299 k_300 k_18 k_301) rfl rfl rfl (by decide +kernel) ⟨Nat.le_of_ble_eq_true rfl, Nat.le_of_ble_eq_true rfl⟩) ⟨PZ_blind, va_recv (q0 := 0) (ci := 0) hE.1 hP rfl rfl, pz_pre hE hZ hS (hP.sub [0, 7, 8, 9, 10, 11, 12] rfl)⟩ rfl rfl hl.1 rfl (lv_room (Nat.le_of_ble_eq_true rfl)) d_Law_law_261 ⟨Nat.le_of_ble_eq_true rfl, Nat.le_of_ble_eq_true rfl⟩)) (fun r hq => ?_)
          have hq := hq.symm
          subst hq
          refine lv_aload_n hx hb d_Law_law_264 rfl (lv_at hl 1 rfl) ?_
          refine vp_callSi (va_Run.run (va_runV (As := []) (rest := [.int (nI pp)]) ⟨hx, hb, hml, hown, hts⟩ (c_Model_pairs l D cI cZ q2 mp mq mr mw mt ml mk mv kd n fo fn fR fW fs gl fk fv (nI pp) stp res) (cwV 0 hts (gd4 k_420 k_421 k_422 k_22 k_423) rfl rfl rfl (by decide +kernel) ⟨Nat.le_of_ble_eq_true rfl, Nat.le_of_ble_eq_true rfl⟩) ⟨PY_blind, va_recv (q0 := 13) (ci := 4) hE.1 hP rfl rfl, py_pre hE (hP.sub [13, 14, 15, 16, 17, 18, 19, 20, 21] rfl)⟩ rfl rfl hl.1 rfl (lv_room (Nat.le_of_ble_eq_true rfl)) d_Law_law_265 ⟨Nat.le_of_ble_eq_true rfl, Nat.le_of_ble_eq_true rfl⟩)) (fun r hq => ?_)
          have hq := hq.symm
          subst hq
          refine lv_icmp_eq (tgt := 307) hx hb d_Law_law_268 (by decide) (fun h17 => ?_) (fun h17 => ?_)
          · -- (nI pp) = (nI pp)
            refine lv_iinc (v := ((nI j) + 4)) (k := 0) hx hb d_Law_law_307 hl rfl rfl (by decide) rfl (fun ls hl => ?_)
            have hl : lv_has ls 4 [(3, .int ((nI j) + 4)), (2, .ref q2), (1, .ref q1), (0, .ref b)] := hl
            refine lv_goto (tgt := 28) hx hb d_Law_law_310 (by decide) ?_
            rw [show nI j + 4 = nI (j + 4) from nI_add j 4] at hl
            exact ih (j + 4) n pp _ _ _ _ _ _ _ _ _ _ _ _ _ _ _ _ _ _ _ _ (by omega) (by omega) (lv_sub hl [0, 1, 2, 3] rfl) (hP.sub [0, 1, 2, 3, 4, 5, 6, 7, 8, 9, 10, 11, 12, 13, 14, 15, 16, 17, 18, 19, 20, 21] rfl) (hD.sub [0, 1, 2, 3, 4, 5, 6, 7, 8, 9, 10, 11, 12, 13, 14, 15, 16, 17, 18, 19, 20, 21] (by decide) rfl) (by omega) (by omega) hS
          · -- ¬ (nI pp) = (nI pp)
            exact absurd (rfl) h17
        · -- case 9
          have h5 : oo = 9 := Int32.toInt_inj.mp (by rw [h5]; decide)
          subst h5
          refine lv_tableIn (tgt := 273) (off := 231) hx hb d_Law_law_42 (by decide) (by decide) (by decide +kernel) (by decide) ?_
          refine lv_aload_n hx hb d_Law_law_273 rfl (lv_at hl 2 rfl) ?_
          refine lv_aload_n hx hb d_Law_law_274 rfl (lv_at hl 3 rfl) ?_
          refine lv_iload_n hx hb d_Law_law_275 rfl (lv_at hl 0 rfl) ?_
          refine lv_iconst (v := 1) hx hb d_Law_law_276 (by decide) ?_
          refine lv_iadd hx hb d_Law_law_277 ?_
          refine lv_eqi (y := (nI (j + 1))) (nI_1 j) ?_
          refine va_ti (v := .int (xs (j + 1))) hx hb hTX hS (vp_in_nI (by omega) (by omega)) (by show Value.int (xs (nI (j + 1)).toNatClampNeg) = _; rw [nI_clamp (show (j + 1) < 2 ^ 31 by omega)]) d_Law_law_278 ?_
          refine lv_aload_n hx hb d_Law_law_279 rfl (lv_at hl 3 rfl) ?_
          refine lv_iload_n hx hb d_Law_law_280 rfl (lv_at hl 0 rfl) ?_
          refine lv_iconst (v := 2) hx hb d_Law_law_281 (by decide) ?_
          refine lv_iadd hx hb d_Law_law_282 ?_
          refine lv_eqi (y := (nI (j + 2))) (nI_add j 2) ?_
          refine va_ti (v := .int (xs (j + 2))) hx hb hTX hS (vp_in_nI (by omega) (by omega)) (by show Value.int (xs (nI (j + 2)).toNatClampNeg) = _; rw [nI_clamp (show (j + 2) < 2 ^ 31 by omega)]) d_Law_law_283 ?_
          refine vp_callSl (va_Run.run (va_runV (As := [.int (xs (j + 1)), .int (xs (j + 2))]) (rest := []) ⟨hx, hb, hml, hown, hts⟩ (c_SJ_pair l D cI cZ tN tG q1 pr wy mc ky vy gy ly sy res stp (nI pp) fk fv fa fl fs hgt ap (xs (j + 1)) (xs (j + 2))) (cwV 2 hts (gd4 k_302 k_303 k_304 k_18 k_305) rfl rfl rfl (by decide +kernel) ⟨Nat.le_of_ble_eq_true rfl, Nat.le_of_ble_eq_true rfl⟩) ⟨PZ_blind, va_recv (q0 := 0) (ci := 0) hE.1 hP rfl rfl, pz_pre hE hZ hS (hP.sub [0, 7, 8, 9, 10, 11, 12] rfl)⟩ rfl rfl hl.1 rfl (lv_room (Nat.le_of_ble_eq_true rfl)) d_Law_law_284 ⟨Nat.le_of_ble_eq_true rfl, Nat.le_of_ble_eq_true rfl⟩)) (fun r hq => ?_)
          have hq := hq.symm
          subst hq
          refine lv_aload_n hx hb d_Law_law_287 rfl (lv_at hl 1 rfl) ?_
          refine lv_aload_n hx hb d_Law_law_288 rfl (lv_at hl 3 rfl) ?_
          refine lv_iload_n hx hb d_Law_law_289 rfl (lv_at hl 0 rfl) ?_
          refine lv_iconst (v := 1) hx hb d_Law_law_290 (by decide) ?_
          refine lv_iadd hx hb d_Law_law_291 ?_
          refine lv_eqi (y := (nI (j + 1))) (nI_1 j) ?_
          refine va_ti (v := .int (xs (j + 1))) hx hb hTX hS (vp_in_nI (by omega) (by omega)) (by show Value.int (xs (nI (j + 1)).toNatClampNeg) = _; rw [nI_clamp (show (j + 1) < 2 ^ 31 by omega)]) d_Law_law_292 ?_
          refine lv_aload_n hx hb d_Law_law_293 rfl (lv_at hl 3 rfl) ?_
          refine lv_iload_n hx hb d_Law_law_294 rfl (lv_at hl 0 rfl) ?_
          refine lv_iconst (v := 2) hx hb d_Law_law_295 (by decide) ?_
          refine lv_iadd hx hb d_Law_law_296 ?_
          refine lv_eqi (y := (nI (j + 2))) (nI_add j 2) ?_
          refine va_ti (v := .int (xs (j + 2))) hx hb hTX hS (vp_in_nI (by omega) (by omega)) (by show Value.int (xs (nI (j + 2)).toNatClampNeg) = _; rw [nI_clamp (show (j + 2) < 2 ^ 31 by omega)]) d_Law_law_297 ?_
          refine vp_callSl (va_Run.run (va_runV (As := [.int (xs (j + 1)), .int (xs (j + 2))]) (rest := [.long (j_pair (nI pp) fk fv (xs (j + 1)) (xs (j + 2)))]) ⟨hx, hb, hml, hown, hts⟩ (c_Model_pair l D cI cZ q2 mp mq mr mw mt ml mk mv kd n fo fn fR fW fs gl fk fv pp stp res (xs (j + 1)) (xs (j + 2)) hp) (cwV 2 hts (gd4 k_424 k_425 k_426 k_22 k_427) rfl rfl rfl (by decide +kernel) ⟨Nat.le_of_ble_eq_true rfl, Nat.le_of_ble_eq_true rfl⟩) ⟨PY_blind, va_recv (q0 := 13) (ci := 4) hE.1 hP rfl rfl, py_pre hE (hP.sub [13, 14, 15, 16, 17, 18, 19, 20, 21] rfl)⟩ rfl rfl hl.1 rfl (lv_room (Nat.le_of_ble_eq_true rfl)) d_Law_law_298 ⟨Nat.le_of_ble_eq_true rfl, Nat.le_of_ble_eq_true rfl⟩)) (fun r hq => ?_)
          have hq := hq.symm
          subst hq
          refine W.lcmp hx hb d_Law_law_301 ?_
          refine lv_if_eq (tgt := 307) hx hb d_Law_law_302 (by decide) (fun h18 => ?_) (fun h18 => ?_)
          · -- (lg_cmp (j_pair (nI pp) fk fv (xs (j + 1)) (xs (j + 2))) (v_pair (nI pp) fk fv (xs (j + 1)) (xs (j + 2)))) = 0
            refine lv_iinc (v := ((nI j) + 4)) (k := 0) hx hb d_Law_law_307 hl rfl rfl (by decide) rfl (fun ls hl => ?_)
            have hl : lv_has ls 4 [(3, .int ((nI j) + 4)), (2, .ref q2), (1, .ref q1), (0, .ref b)] := hl
            refine lv_goto (tgt := 28) hx hb d_Law_law_310 (by decide) ?_
            rw [show nI j + 4 = nI (j + 4) from nI_add j 4] at hl
            exact ih (j + 4) n pp _ _ _ _ _ _ _ _ _ _ _ _ _ _ _ _ _ _ _ _ (by omega) (by omega) (lv_sub hl [0, 1, 2, 3] rfl) (hP.sub [0, 1, 2, 3, 4, 5, 6, 7, 8, 9, 10, 11, 12, 13, 14, 15, 16, 17, 18, 19, 20, 21] rfl) (hD.sub [0, 1, 2, 3, 4, 5, 6, 7, 8, 9, 10, 11, 12, 13, 14, 15, 16, 17, 18, 19, 20, 21] (by decide) rfl) (by omega) (by omega) hS
          · -- ¬ (lg_cmp (j_pair (nI pp) fk fv (xs (j + 1)) (xs (j + 2))) (v_pair (nI pp) fk fv (xs (j + 1)) (xs (j + 2)))) = 0
            exact absurd (by rw [pair_eq hp]; exact lg_same _) h18
  exact key L 1 0 0 _ _ _ _ _ _ _ _ _ _ _ _ _ _ _ _ _ H locs ls (by omega) (by omega) (lv_sub hl [0, 1, 2, 3] rfl) (hP.sub [0, 1, 2, 3, 4, 5, 6, 7, 8, 9, 10, 11, 12, 13, 14, 15, 16, 17, 18, 19, 20, 21] rfl) (hD.sub [0, 1, 2, 3, 4, 5, 6, 7, 8, 9, 10, 11, 12, 13, 14, 15, 16, 17, 18, 19, 20, 21] (by decide) rfl) (by omega) (by omega) hS
