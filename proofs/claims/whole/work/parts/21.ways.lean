set_option maxHeartbeats 4000000 in
set_option maxRecDepth 100000 in
theorem c_Ways_isReached (l : Launch) (D : va_G) (cI cZ : ClassId) (tN tG : Nat) (wy re wa : Nat) (fr fw : Nat → Int32) (wc : Int32) (k h : Int32) : Met l y_Ways_isReached w_Ways_isReached (rmk 1) (va_Pc [.ref wy, .int k, .int h] (PZ D cI cZ tN tG [(wy, .inr (2, [.ref re, .ref wa, .int wc])), (re, .inl (cI, 64, .inl fr)), (wa, .inl (cI, 576, .inl fw))])) (vp_Si (fun r => r = w_isR fr k h)) 0 0 (fun _ => False) := by
  refine Met.ofW (cc := b_Ways_isReached) (maxL := 3) (ret := (some .boolean)) (by decide) rfl ?_
  intro p e s m args below meth c s₁ B hml hv
  obtain ⟨rfl, hP, hE, hZ⟩ := hv
  have hx := B.exec
  have hb := B.bytes
  have hr := B.returns
  have hts : ∀ w ∈ gW, w.before _ s = true := fun w h => atoms_spec (ws := w_Ways_isReached) B.pre w (List.mem_cons_of_mem _ h)
  have hown : s.vm.findClass R_Ways = some m.cls := findClass_of_methodNamed B.named
  have hlocks := B.notSynchronized
  have hS : va_S (fun _ => False) s.heap s.heap [] := va_S.rf
  have hP : va_P D classes [(wy, .inr (2, [.ref re, .ref wa, .int wc])), (re, .inl (cI, 64, .inl fr)), (wa, .inl (cI, 576, .inl fw))] s.heap := hP
  have hl := lv_entry ([.ref wy, .int k, .int h]) (n := 3) (Nat.le_of_ble_eq_true rfl)
  rw [lg_entry_eq]
  generalize (lg_sl ([.ref wy, .int k, .int h]) ++ List.replicate (3 - (lg_sl ([.ref wy, .int k, .int h])).length) Slot.unset).toArray = ls at hl ⊢
  have hl : lv_has ls 3 [(0, .ref wy), (1, .int k), (2, .int h)] := hl
  refine lv_aload_n hx hb d_Ways_isReached_0 rfl (lv_at hl 0 rfl) ?_
  refine va_get (D := D) (ci := 2) (v := .ref re) (C := R_Ways) (T := F_Ways) (N := 3) hx hb hts in_Ways hown hE.1 hP 0 rfl rfl 0 (by decide) (hts _ k_66) (fun _ h9 => h9) rfl d_Ways_isReached_1 ?_
  refine lv_iload_n hx hb d_Ways_isReached_4 rfl (lv_at hl 1 rfl) ?_
  refine vp_callSi (va_Run.run (va_runSN (As := [.ref re, .int k]) (rest := []) ⟨hx, hb, hml, hown, hts⟩ (c_SJ_read l re 64 fr k (by decide)) ⟨va_cnB 2 hts (gd k_177) rfl rfl rfl (hE.2 _ nm_3) (hts _ k_18) (by decide +kernel) ⟨Nat.le_of_ble_eq_true rfl, Nat.le_of_ble_eq_true rfl⟩, hts _ k_176, trivial⟩ (rp_pre hE.1 hP 1 0 rfl rfl) rfl rfl hl.1 rfl (lv_room (Nat.le_of_ble_eq_true rfl)) d_Ways_isReached_5 ⟨Nat.zero_le _, Nat.zero_le _⟩)) (fun r hq => ?_)
  subst hq
  refine lv_iload_n hx hb d_Ways_isReached_8 rfl (lv_at hl 2 rfl) ?_
  refine lv_ishr hx hb d_Ways_isReached_9 ?_
  refine lv_iconst (v := 1) hx hb d_Ways_isReached_10 (by decide) ?_
  refine lv_iand hx hb d_Ways_isReached_11 ?_
  refine lv_if_eq (tgt := 19) hx hb d_Ways_isReached_12 (by decide) (fun h1 => ?_) (fun h1 => ?_)
  · -- (((rd fr 64 k) >>> (h &&& 31)) &&& 1) = 0
    refine lv_iconst (v := 0) hx hb d_Ways_isReached_19 (by decide) ?_
    refine W.zret hx hb hr (by decide) (fun t ht hW => ⟨_, rfl, ?_, ht⟩) (fun q h => by cases h) d_Ways_isReached_20
    show 0 = w_isR fr k h
    first | (simp only [w_isR, h1, if_true, if_false, eq_self, not_true_eq_false, not_false_eq_true, ne_eq]; done) | (simp only [w_isR, h1, if_true, if_false, eq_self, not_true_eq_false, not_false_eq_true, ne_eq]; rfl) | (simp [w_isR, h1]; done)
  · -- ¬ (((rd fr 64 k) >>> (h &&& 31)) &&& 1) = 0
    refine lv_iconst (v := 1) hx hb d_Ways_isReached_15 (by decide) ?_
    refine lv_goto (tgt := 20) hx hb d_Ways_isReached_16 (by decide) ?_
    refine W.zret hx hb hr (by decide) (fun t ht hW => ⟨_, rfl, ?_, ht⟩) (fun q h => by cases h) d_Ways_isReached_20
    show 1 = w_isR fr k h
    first | (simp only [w_isR, h1, if_true, if_false, eq_self, not_true_eq_false, not_false_eq_true, ne_eq]; done) | (simp only [w_isR, h1, if_true, if_false, eq_self, not_true_eq_false, not_false_eq_true, ne_eq]; rfl) | (simp [w_isR, h1]; done)
set_option maxHeartbeats 4000000 in
set_option maxRecDepth 100000 in
theorem c_Ways_reach (l : Launch) (D : va_G) (cI cZ : ClassId) (tN tG : Nat) (hz : Nat) (pr po pn : Nat) (kd sz ac : Int32) (fo fn : Nat → Int32) (wy re wa : Nat) (fr fw : Nat → Int32) (wc : Int32) (k h : Int32) : Met l y_Ways_reach w_Ways_reach (rmk 2) (va_Pc [.ref wy, .ref pr, .int k, .int h] (MZ D cI cZ tN tG [(pr, .inr (1, [.int kd, .int sz, .int ac, .ref po, .ref pn])), (po, .inl (cI, 64, .inl fo)), (pn, .inl (cI, 64, .inl fn)), (wy, .inr (2, [.ref re, .ref wa, .int wc])), (re, .inl (cI, 64, .inl fr)), (wa, .inl (cI, 576, .inl fw))] hz)) (va_Qv (fun u : WS => u = w_reach sz k h (fr, fw, wc)) (fun u t => ME D (va_A [(pr, .inr (1, [.int kd, .int sz, .int ac, .ref po, .ref pn])), (po, .inl (cI, 64, .inl fo)), (pn, .inl (cI, 64, .inl fn)), (wy, .inr (2, [.ref re, .ref wa, .int wc])), (re, .inl (cI, 64, .inl fr)), (wa, .inl (cI, 576, .inl fw))] hz) [(pr, .inr (1, [.int kd, .int sz, .int ac, .ref po, .ref pn])), (po, .inl (cI, 64, .inl fo)), (pn, .inl (cI, 64, .inl fn)), (wy, .inr (2, [.ref re, .ref wa, .int u.2.2])), (re, .inl (cI, 64, .inl u.1)), (wa, .inl (cI, 576, .inl u.2.1))] t) (va_A [(pr, .inr (1, [.int kd, .int sz, .int ac, .ref po, .ref pn])), (po, .inl (cI, 64, .inl fo)), (pn, .inl (cI, 64, .inl fn)), (wy, .inr (2, [.ref re, .ref wa, .int wc])), (re, .inl (cI, 64, .inl fr)), (wa, .inl (cI, 576, .inl fw))] hz)) 0 0 (va_A [(pr, .inr (1, [.int kd, .int sz, .int ac, .ref po, .ref pn])), (po, .inl (cI, 64, .inl fo)), (pn, .inl (cI, 64, .inl fn)), (wy, .inr (2, [.ref re, .ref wa, .int wc])), (re, .inl (cI, 64, .inl fr)), (wa, .inl (cI, 576, .inl fw))] hz) := by
  refine Met.ofW (cc := b_Ways_reach) (maxL := 4) (ret := none) (by decide) rfl ?_
  intro p e s m args below meth c s₁ B hml hv
  obtain ⟨rfl, hsz, hP, hE, hD0, hZ⟩ := hv
  have hx := B.exec
  have hb := B.bytes
  have hr := B.returns
  have hts : ∀ w ∈ gW, w.before _ s = true := fun w h => atoms_spec (ws := w_Ways_reach) B.pre w (List.mem_cons_of_mem _ h)
  have hown : s.vm.findClass R_Ways = some m.cls := findClass_of_methodNamed B.named
  have hlocks := B.notSynchronized
  subst hsz
  have hD := hD0.self (sz := s.heap.size)
  have hA : ∀ q : Nat, s.heap.size ≤ q → va_A [(pr, .inr (1, [.int kd, .int sz, .int ac, .ref po, .ref pn])), (po, .inl (cI, 64, .inl fo)), (pn, .inl (cI, 64, .inl fn)), (wy, .inr (2, [.ref re, .ref wa, .int wc])), (re, .inl (cI, 64, .inl fr)), (wa, .inl (cI, 576, .inl fw))] s.heap.size q := fun q h => Or.inr h
  generalize va_A [(pr, .inr (1, [.int kd, .int sz, .int ac, .ref po, .ref pn])), (po, .inl (cI, 64, .inl fo)), (pn, .inl (cI, 64, .inl fn)), (wy, .inr (2, [.ref re, .ref wa, .int wc])), (re, .inl (cI, 64, .inl fr)), (wa, .inl (cI, 576, .inl fw))] s.heap.size = A at hD hA hZ ⊢
  have hS : va_S A s.heap s.heap [] := va_S.rf
  have hP : va_P D classes [(pr, .inr (1, [.int kd, .int sz, .int ac, .ref po, .ref pn])), (po, .inl (cI, 64, .inl fo)), (pn, .inl (cI, 64, .inl fn)), (wy, .inr (2, [.ref re, .ref wa, .int wc])), (re, .inl (cI, 64, .inl fr)), (wa, .inl (cI, 576, .inl fw))] s.heap := hP
  have hD : va_D A [(pr, .inr (1, [.int kd, .int sz, .int ac, .ref po, .ref pn])), (po, .inl (cI, 64, .inl fo)), (pn, .inl (cI, 64, .inl fn)), (wy, .inr (2, [.ref re, .ref wa, .int wc])), (re, .inl (cI, 64, .inl fr)), (wa, .inl (cI, 576, .inl fw))] := hD
  have hl := lv_entry ([.ref wy, .ref pr, .int k, .int h]) (n := 4) (Nat.le_of_ble_eq_true rfl)
  rw [lg_entry_eq]
  generalize (lg_sl ([.ref wy, .ref pr, .int k, .int h]) ++ List.replicate (4 - (lg_sl ([.ref wy, .ref pr, .int k, .int h])).length) Slot.unset).toArray = ls at hl ⊢
  have hl : lv_has ls 4 [(0, .ref wy), (1, .ref pr), (2, .int k), (3, .int h)] := hl
  refine lv_aload_n hx hb d_Ways_reach_0 rfl (lv_at hl 1 rfl) ?_
  refine lv_iload_n hx hb d_Ways_reach_1 rfl (lv_at hl 2 rfl) ?_
  refine vp_callSi (va_Run.run (va_runV (As := [.int k]) (rest := []) ⟨hx, hb, hml, hown, hts⟩ (c_Program_has l D cI cZ tN tG pr po pn kd sz ac fo fn k) (cwV 1 hts (gd4 k_167 k_168 k_169 k_19 k_170) rfl rfl rfl (by decide +kernel) ⟨Nat.le_of_ble_eq_true rfl, Nat.le_of_ble_eq_true rfl⟩) ⟨PZ_blind, va_recv (q0 := 0) (ci := 1) hE.1 hP rfl rfl, pz_pre hE hZ hS (hP.sub [0, 1, 2] rfl)⟩ rfl rfl hl.1 rfl (lv_room (Nat.le_of_ble_eq_true rfl)) d_Ways_reach_2 ⟨Nat.zero_le _, Nat.zero_le _⟩)) (fun r hq => ?_)
  subst hq
  refine lv_if_eq (tgt := 17) hx hb d_Ways_reach_5 (by decide) (fun h1 => ?_) (fun h1 => ?_)
  · -- (p_has sz k) = 0
    refine W.vret hx hb hr (fun t ht hW => ⟨⟨(fr, fw, wc), rfl, ?_, ?_⟩, hS.F ht⟩) hS.2.2 d_Ways_reach_17
    · first | (simp only [w_reach, h1, if_true, if_false, eq_self, not_true_eq_false, not_false_eq_true, ne_eq]; done) | (simp only [w_reach, h1, if_true, if_false, eq_self, not_true_eq_false, not_false_eq_true, ne_eq]; rfl) | (simp [w_reach, h1]; done)
    · exact ⟨by rw [ht]; exact hP.sub [0, 1, 2, 3, 4, 5] rfl, hD.sub [0, 1, 2, 3, 4, 5] (by decide) rfl⟩
  · -- ¬ (p_has sz k) = 0
    refine lv_aload_n hx hb d_Ways_reach_8 rfl (lv_at hl 0 rfl) ?_
    refine lv_iload_n hx hb d_Ways_reach_9 rfl (lv_at hl 2 rfl) ?_
    refine lv_iload_n hx hb d_Ways_reach_10 rfl (lv_at hl 3 rfl) ?_
    refine vp_callSi (va_Run.run (va_runV (As := [.int k, .int h]) (rest := []) ⟨hx, hb, hml, hown, hts⟩ (c_Ways_isReached l D cI cZ tN tG wy re wa fr fw wc k h) (cwV 2 hts (gd4 k_171 k_173 k_1 k_20 k_174) rfl rfl rfl (by decide +kernel) ⟨Nat.le_of_ble_eq_true rfl, Nat.le_of_ble_eq_true rfl⟩) ⟨PZ_blind, va_recv (q0 := 3) (ci := 2) hE.1 hP rfl rfl, pz_pre hE hZ hS (hP.sub [3, 4, 5] rfl)⟩ rfl rfl hl.1 rfl (lv_room (Nat.le_of_ble_eq_true rfl)) d_Ways_reach_11 ⟨Nat.zero_le _, Nat.zero_le _⟩)) (fun r hq => ?_)
    subst hq
    refine lv_if_eq (tgt := 18) hx hb d_Ways_reach_14 (by decide) (fun h2 => ?_) (fun h2 => ?_)
    · -- (w_isR fr k h) = 0
      refine lv_aload_n hx hb d_Ways_reach_18 rfl (lv_at hl 0 rfl) ?_
      refine va_get (D := D) (ci := 2) (v := .ref re) (C := R_Ways) (T := F_Ways) (N := 3) hx hb hts in_Ways hown hE.1 hP 3 rfl rfl 0 (by decide) (hts _ k_66) (fun _ h9 => h9) rfl d_Ways_reach_19 ?_
      refine lv_iload_n hx hb d_Ways_reach_22 rfl (lv_at hl 2 rfl) ?_
      refine lv_aload_n hx hb d_Ways_reach_23 rfl (lv_at hl 0 rfl) ?_
      refine va_get (D := D) (ci := 2) (v := .ref re) (C := R_Ways) (T := F_Ways) (N := 3) hx hb hts in_Ways hown hE.1 hP 3 rfl rfl 0 (by decide) (hts _ k_66) (fun _ h9 => h9) rfl d_Ways_reach_24 ?_
      refine lv_iload_n hx hb d_Ways_reach_27 rfl (lv_at hl 2 rfl) ?_
      refine vp_callSi (va_Run.run (va_runSN (As := [.ref re, .int k]) (rest := [.int k, .ref re]) ⟨hx, hb, hml, hown, hts⟩ (c_SJ_read l re 64 fr k (by decide)) ⟨va_cnB 2 hts (gd k_177) rfl rfl rfl (hE.2 _ nm_3) (hts _ k_18) (by decide +kernel) ⟨Nat.le_of_ble_eq_true rfl, Nat.le_of_ble_eq_true rfl⟩, hts _ k_176, trivial⟩ (rp_pre hE.1 hP 4 0 rfl rfl) rfl rfl hl.1 rfl (lv_room (Nat.le_of_ble_eq_true rfl)) d_Ways_reach_28 ⟨Nat.zero_le _, Nat.zero_le _⟩)) (fun r hq => ?_)
      subst hq
      refine lv_iconst (v := 1) hx hb d_Ways_reach_31 (by decide) ?_
      refine lv_iload_n hx hb d_Ways_reach_32 rfl (lv_at hl 3 rfl) ?_
      refine lv_ishl hx hb d_Ways_reach_33 ?_
      refine lv_ior hx hb d_Ways_reach_34 ?_
      have hPc := hP.sub (ws' := [(re, .inl (cI, 64, .inl fr))]) [4] rfl
      have hDc := hD.sub (ws' := [(re, .inl (cI, 64, .inl fr))]) [4] (by decide) rfl
      have hFc := va_free (wc := [(re, .inl (cI, 64, .inl fr))]) hD hS hA [4] rfl
      refine va_callv (va_runSN (As := [.ref re, .int k, .int ((rd fr 64 k) ||| (1 <<< (h &&& 31)))]) (rest := []) ⟨hx, hb, hml, hown, hts⟩ (c_SJ_write l D cI cZ tN tG s.heap.size re 64 fr k ((rd fr 64 k) ||| (1 <<< (h &&& 31))) (by decide)) ⟨va_cnB 3 hts (gd k_139) rfl rfl rfl (hE.2 _ nm_4) (hts _ k_18) (by decide +kernel) ⟨Nat.le_of_ble_eq_true rfl, Nat.le_of_ble_eq_true rfl⟩, hts _ k_138, trivial⟩ ⟨MZ_blind, mz_pre hE hZ hS hPc hDc hFc⟩ rfl rfl hl.1 rfl (lv_room (Nat.le_of_ble_eq_true rfl)) d_Ways_reach_35 ⟨Nat.zero_le _, Nat.zero_le _⟩) hS (fun q _ h => hFc q h) hFc (fun u t H1 locs ht hvm hw hB hz1 hk1 hS => ?_)
      obtain ⟨hP1, hD1⟩ := hB
      rw [ht] at hP1
      subst hw
      obtain ⟨hP, hD⟩ := va_join (wr := [(pr, .inr (1, [.int kd, .int sz, .int ac, .ref po, .ref pn])), (po, .inl (cI, 64, .inl fo)), (pn, .inl (cI, 64, .inl fn)), (wy, .inr (2, [.ref re, .ref wa, .int wc])), (wa, .inl (cI, 576, .inl fw))]) (w1 := [(re, .inl (cI, 64, .inl (wr fr 64 k ((rd fr 64 k) ||| (1 <<< (h &&& 31))))))]) hP hD [4] [0, 1, 2, 3, 5] rfl rfl (by decide) (by decide) hk1 hFc hP1 hD1
      generalize H1 = H at hP hS ⊢
      have hP : va_P D classes [(pr, .inr (1, [.int kd, .int sz, .int ac, .ref po, .ref pn])), (po, .inl (cI, 64, .inl fo)), (pn, .inl (cI, 64, .inl fn)), (wy, .inr (2, [.ref re, .ref wa, .int wc])), (wa, .inl (cI, 576, .inl fw)), (re, .inl (cI, 64, .inl (wr fr 64 k ((rd fr 64 k) ||| (1 <<< (h &&& 31))))))] H := hP
      have hD : va_D A [(pr, .inr (1, [.int kd, .int sz, .int ac, .ref po, .ref pn])), (po, .inl (cI, 64, .inl fo)), (pn, .inl (cI, 64, .inl fn)), (wy, .inr (2, [.ref re, .ref wa, .int wc])), (wa, .inl (cI, 576, .inl fw)), (re, .inl (cI, 64, .inl (wr fr 64 k ((rd fr 64 k) ||| (1 <<< (h &&& 31))))))] := hD
      refine lv_aload_n hx hb d_Ways_reach_38 rfl (lv_at hl 0 rfl) ?_
      refine va_get (D := D) (ci := 2) (v := .ref wa) (C := R_Ways) (T := F_Ways) (N := 3) hx hb hts in_Ways hown hE.1 hP 3 rfl rfl 1 (by decide) (hts _ k_68) (fun _ h9 => h9) rfl d_Ways_reach_39 ?_
      refine lv_aload_n hx hb d_Ways_reach_42 rfl (lv_at hl 0 rfl) ?_
      refine va_get (D := D) (ci := 2) (v := .int wc) (C := R_Ways) (T := F_Ways) (N := 3) hx hb hts in_Ways hown hE.1 hP 3 rfl rfl 2 (by decide) (hts _ k_69) (fun _ h9 => h9) rfl d_Ways_reach_43 ?_
      refine lv_iload_n hx hb d_Ways_reach_46 rfl (lv_at hl 2 rfl) ?_
      refine lv_bipush (v := 9) hx hb d_Ways_reach_47 (by decide) ?_
      refine lv_imul hx hb d_Ways_reach_49 ?_
      refine lv_iload_n hx hb d_Ways_reach_50 rfl (lv_at hl 3 rfl) ?_
      refine lv_iadd hx hb d_Ways_reach_51 ?_
      have hPc := hP.sub (ws' := [(wa, .inl (cI, 576, .inl fw))]) [4] rfl
      have hDc := hD.sub (ws' := [(wa, .inl (cI, 576, .inl fw))]) [4] (by decide) rfl
      have hFc := va_free (wc := [(wa, .inl (cI, 576, .inl fw))]) hD hS hA [4] rfl
      refine va_callv (va_runSN (As := [.ref wa, .int wc, .int ((k * 9) + h)]) (rest := []) ⟨hx, hb, hml, hown, hts⟩ (c_SJ_write l D cI cZ tN tG H.size wa 576 fw wc ((k * 9) + h) (by decide)) ⟨va_cnB 3 hts (gd k_139) rfl rfl rfl (hE.2 _ nm_4) (hts _ k_18) (by decide +kernel) ⟨Nat.le_of_ble_eq_true rfl, Nat.le_of_ble_eq_true rfl⟩, hts _ k_138, trivial⟩ ⟨MZ_blind, mz_pre hE hZ hS hPc hDc hFc⟩ rfl rfl hl.1 rfl (lv_room (Nat.le_of_ble_eq_true rfl)) d_Ways_reach_52 ⟨Nat.zero_le _, Nat.zero_le _⟩) hS (fun q _ h => hFc q h) hFc (fun u t H1 locs ht hvm hw hB hz1 hk1 hS => ?_)
      obtain ⟨hP1, hD1⟩ := hB
      rw [ht] at hP1
      subst hw
      obtain ⟨hP, hD⟩ := va_join (wr := [(pr, .inr (1, [.int kd, .int sz, .int ac, .ref po, .ref pn])), (po, .inl (cI, 64, .inl fo)), (pn, .inl (cI, 64, .inl fn)), (wy, .inr (2, [.ref re, .ref wa, .int wc])), (re, .inl (cI, 64, .inl (wr fr 64 k ((rd fr 64 k) ||| (1 <<< (h &&& 31))))))]) (w1 := [(wa, .inl (cI, 576, .inl (wr fw 576 wc ((k * 9) + h))))]) hP hD [4] [0, 1, 2, 3, 5] rfl rfl (by decide) (by decide) hk1 hFc hP1 hD1
      generalize H1 = H at hP hS ⊢
      have hP : va_P D classes [(pr, .inr (1, [.int kd, .int sz, .int ac, .ref po, .ref pn])), (po, .inl (cI, 64, .inl fo)), (pn, .inl (cI, 64, .inl fn)), (wy, .inr (2, [.ref re, .ref wa, .int wc])), (re, .inl (cI, 64, .inl (wr fr 64 k ((rd fr 64 k) ||| (1 <<< (h &&& 31)))))), (wa, .inl (cI, 576, .inl (wr fw 576 wc ((k * 9) + h))))] H := hP
      have hD : va_D A [(pr, .inr (1, [.int kd, .int sz, .int ac, .ref po, .ref pn])), (po, .inl (cI, 64, .inl fo)), (pn, .inl (cI, 64, .inl fn)), (wy, .inr (2, [.ref re, .ref wa, .int wc])), (re, .inl (cI, 64, .inl (wr fr 64 k ((rd fr 64 k) ||| (1 <<< (h &&& 31)))))), (wa, .inl (cI, 576, .inl (wr fw 576 wc ((k * 9) + h))))] := hD
      refine lv_aload_n hx hb d_Ways_reach_55 rfl (lv_at hl 0 rfl) ?_
      refine lv_dup hx hb d_Ways_reach_56 rfl ?_
      refine va_get (D := D) (ci := 2) (v := .int wc) (C := R_Ways) (T := F_Ways) (N := 3) hx hb hts in_Ways hown hE.1 hP 3 rfl rfl 2 (by decide) (hts _ k_69) (fun _ h9 => h9) rfl d_Ways_reach_57 ?_
      refine lv_iconst (v := 1) hx hb d_Ways_reach_60 (by decide) ?_
      refine lv_iadd hx hb d_Ways_reach_61 ?_
      refine va_put (D := D) (ci := 2) (v := .int (wc + 1)) (ty := .int) (C := R_Ways) (T := F_Ways) (N := 3) hx hb hts in_Ways t_Ways t_Ways_ok n_Ways hown hE.1 hP hD hS 3 rfl rfl 2 (by decide) (hts _ k_69) (fun _ h9 => h9) rfl (by decide +kernel) rfl rfl (Nat.le_of_ble_eq_true rfl) d_Ways_reach_62 (fun H locs hP hD hS => ?_)
      have hP : va_P D classes [(pr, .inr (1, [.int kd, .int sz, .int ac, .ref po, .ref pn])), (po, .inl (cI, 64, .inl fo)), (pn, .inl (cI, 64, .inl fn)), (wy, .inr (2, [.ref re, .ref wa, .int (wc + 1)])), (re, .inl (cI, 64, .inl (wr fr 64 k ((rd fr 64 k) ||| (1 <<< (h &&& 31)))))), (wa, .inl (cI, 576, .inl (wr fw 576 wc ((k * 9) + h))))] H := hP
      have hD : va_D A [(pr, .inr (1, [.int kd, .int sz, .int ac, .ref po, .ref pn])), (po, .inl (cI, 64, .inl fo)), (pn, .inl (cI, 64, .inl fn)), (wy, .inr (2, [.ref re, .ref wa, .int (wc + 1)])), (re, .inl (cI, 64, .inl (wr fr 64 k ((rd fr 64 k) ||| (1 <<< (h &&& 31)))))), (wa, .inl (cI, 576, .inl (wr fw 576 wc ((k * 9) + h))))] := hD
      refine W.vret hx hb hr (fun t ht hW => ⟨⟨((wr fr 64 k ((rd fr 64 k) ||| (1 <<< (h &&& 31)))), (wr fw 576 wc ((k * 9) + h)), (wc + 1)), rfl, ?_, ?_⟩, hS.F ht⟩) hS.2.2 d_Ways_reach_65
      · first | (simp only [w_reach, h1, h2, if_true, if_false, eq_self, not_true_eq_false, not_false_eq_true, ne_eq]; done) | (simp only [w_reach, h1, h2, if_true, if_false, eq_self, not_true_eq_false, not_false_eq_true, ne_eq]; rfl) | (simp [w_reach, h1, h2]; done)
      · exact ⟨by rw [ht]; exact hP.sub [0, 1, 2, 3, 4, 5] rfl, hD.sub [0, 1, 2, 3, 4, 5] (by decide) rfl⟩
    · -- ¬ (w_isR fr k h) = 0
      refine W.vret hx hb hr (fun t ht hW => ⟨⟨(fr, fw, wc), rfl, ?_, ?_⟩, hS.F ht⟩) hS.2.2 d_Ways_reach_17
      · first | (simp only [w_reach, h1, h2, if_true, if_false, eq_self, not_true_eq_false, not_false_eq_true, ne_eq]; done) | (simp only [w_reach, h1, h2, if_true, if_false, eq_self, not_true_eq_false, not_false_eq_true, ne_eq]; rfl) | (simp [w_reach, h1, h2]; done)
      · exact ⟨by rw [ht]; exact hP.sub [0, 1, 2, 3, 4, 5] rfl, hD.sub [0, 1, 2, 3, 4, 5] (by decide) rfl⟩
set_option maxHeartbeats 4000000 in
set_option maxRecDepth 100000 in
theorem c_Ways_goOn (l : Launch) (D : va_G) (cI cZ : ClassId) (tN tG : Nat) (hz : Nat) (pr po pn : Nat) (kd sz ac : Int32) (fo fn : Nat → Int32) (wy re wa : Nat) (fr fw : Nat → Int32) (wc : Int32) (k h : Int32) : Met l y_Ways_goOn w_Ways_goOn (rmk 3) (va_Pc [.ref wy, .ref pr, .int k, .int h] (MZ D cI cZ tN tG [(pr, .inr (1, [.int kd, .int sz, .int ac, .ref po, .ref pn])), (po, .inl (cI, 64, .inl fo)), (pn, .inl (cI, 64, .inl fn)), (wy, .inr (2, [.ref re, .ref wa, .int wc])), (re, .inl (cI, 64, .inl fr)), (wa, .inl (cI, 576, .inl fw))] hz)) (va_Qv (fun u : WS => u = w_goOn kd sz ac fo fn k h (fr, fw, wc)) (fun u t => ME D (va_A [(pr, .inr (1, [.int kd, .int sz, .int ac, .ref po, .ref pn])), (po, .inl (cI, 64, .inl fo)), (pn, .inl (cI, 64, .inl fn)), (wy, .inr (2, [.ref re, .ref wa, .int wc])), (re, .inl (cI, 64, .inl fr)), (wa, .inl (cI, 576, .inl fw))] hz) [(pr, .inr (1, [.int kd, .int sz, .int ac, .ref po, .ref pn])), (po, .inl (cI, 64, .inl fo)), (pn, .inl (cI, 64, .inl fn)), (wy, .inr (2, [.ref re, .ref wa, .int u.2.2])), (re, .inl (cI, 64, .inl u.1)), (wa, .inl (cI, 576, .inl u.2.1))] t) (va_A [(pr, .inr (1, [.int kd, .int sz, .int ac, .ref po, .ref pn])), (po, .inl (cI, 64, .inl fo)), (pn, .inl (cI, 64, .inl fn)), (wy, .inr (2, [.ref re, .ref wa, .int wc])), (re, .inl (cI, 64, .inl fr)), (wa, .inl (cI, 576, .inl fw))] hz)) 0 0 (va_A [(pr, .inr (1, [.int kd, .int sz, .int ac, .ref po, .ref pn])), (po, .inl (cI, 64, .inl fo)), (pn, .inl (cI, 64, .inl fn)), (wy, .inr (2, [.ref re, .ref wa, .int wc])), (re, .inl (cI, 64, .inl fr)), (wa, .inl (cI, 576, .inl fw))] hz) := by
  refine Met.ofW (cc := b_Ways_goOn) (maxL := 6) (ret := none) (by decide) rfl ?_
  intro p e s m args below meth c s₁ B hml hv
  obtain ⟨rfl, hsz, hP, hE, hD0, hZ⟩ := hv
  have hx := B.exec
  have hb := B.bytes
  have hr := B.returns
  have hts : ∀ w ∈ gW, w.before _ s = true := fun w h => atoms_spec (ws := w_Ways_goOn) B.pre w (List.mem_cons_of_mem _ h)
  have hown : s.vm.findClass R_Ways = some m.cls := findClass_of_methodNamed B.named
  have hlocks := B.notSynchronized
  subst hsz
  have hD := hD0.self (sz := s.heap.size)
  have hA : ∀ q : Nat, s.heap.size ≤ q → va_A [(pr, .inr (1, [.int kd, .int sz, .int ac, .ref po, .ref pn])), (po, .inl (cI, 64, .inl fo)), (pn, .inl (cI, 64, .inl fn)), (wy, .inr (2, [.ref re, .ref wa, .int wc])), (re, .inl (cI, 64, .inl fr)), (wa, .inl (cI, 576, .inl fw))] s.heap.size q := fun q h => Or.inr h
  generalize va_A [(pr, .inr (1, [.int kd, .int sz, .int ac, .ref po, .ref pn])), (po, .inl (cI, 64, .inl fo)), (pn, .inl (cI, 64, .inl fn)), (wy, .inr (2, [.ref re, .ref wa, .int wc])), (re, .inl (cI, 64, .inl fr)), (wa, .inl (cI, 576, .inl fw))] s.heap.size = A at hD hA hZ ⊢
  have hS : va_S A s.heap s.heap [] := va_S.rf
  have hP : va_P D classes [(pr, .inr (1, [.int kd, .int sz, .int ac, .ref po, .ref pn])), (po, .inl (cI, 64, .inl fo)), (pn, .inl (cI, 64, .inl fn)), (wy, .inr (2, [.ref re, .ref wa, .int wc])), (re, .inl (cI, 64, .inl fr)), (wa, .inl (cI, 576, .inl fw))] s.heap := hP
  have hD : va_D A [(pr, .inr (1, [.int kd, .int sz, .int ac, .ref po, .ref pn])), (po, .inl (cI, 64, .inl fo)), (pn, .inl (cI, 64, .inl fn)), (wy, .inr (2, [.ref re, .ref wa, .int wc])), (re, .inl (cI, 64, .inl fr)), (wa, .inl (cI, 576, .inl fw))] := hD
  have hl := lv_entry ([.ref wy, .ref pr, .int k, .int h]) (n := 6) (Nat.le_of_ble_eq_true rfl)
  rw [lg_entry_eq]
  generalize (lg_sl ([.ref wy, .ref pr, .int k, .int h]) ++ List.replicate (6 - (lg_sl ([.ref wy, .ref pr, .int k, .int h])).length) Slot.unset).toArray = ls at hl ⊢
  have hl : lv_has ls 6 [(0, .ref wy), (1, .ref pr), (2, .int k), (3, .int h)] := hl
  refine lv_aload_n hx hb d_Ways_goOn_0 rfl (lv_at hl 1 rfl) ?_
  refine lv_iload_n hx hb d_Ways_goOn_1 rfl (lv_at hl 2 rfl) ?_
  refine lv_iload_n hx hb d_Ways_goOn_2 rfl (lv_at hl 3 rfl) ?_
  refine vp_callSi (va_Run.run (va_runV (As := [.int k, .int h]) (rest := []) ⟨hx, hb, hml, hown, hts⟩ (c_Program_canBeDone l D cI cZ tN tG pr po pn kd sz ac fo fn k h) (cwV 2 hts (gd4 k_183 k_184 k_185 k_19 k_186) rfl rfl rfl (by decide +kernel) ⟨Nat.le_of_ble_eq_true rfl, Nat.le_of_ble_eq_true rfl⟩) ⟨PZ_blind, va_recv (q0 := 0) (ci := 1) hE.1 hP rfl rfl, pz_pre hE hZ hS (hP.sub [0, 1, 2] rfl)⟩ rfl rfl hl.1 rfl (lv_room (Nat.le_of_ble_eq_true rfl)) d_Ways_goOn_3 ⟨Nat.zero_le _, Nat.zero_le _⟩)) (fun r hq => ?_)
  subst hq
  refine lv_if_ne (tgt := 10) hx hb d_Ways_goOn_6 (by decide) (fun h1 => ?_) (fun h1 => ?_)
  · -- ¬ (p_cbd kd sz ac fo fn k h) = 0
    refine lv_aload_n hx hb d_Ways_goOn_10 rfl (lv_at hl 1 rfl) ?_
    refine lv_iload_n hx hb d_Ways_goOn_11 rfl (lv_at hl 2 rfl) ?_
    refine vp_callSi (va_Run.run (va_runV (As := [.int k]) (rest := []) ⟨hx, hb, hml, hown, hts⟩ (c_Program_opAt l D cI cZ tN tG pr po pn kd sz ac fo fn k) (cwV 1 hts (gd4 k_218 k_188 k_189 k_19 k_190) rfl rfl rfl (by decide +kernel) ⟨Nat.le_of_ble_eq_true rfl, Nat.le_of_ble_eq_true rfl⟩) ⟨PZ_blind, va_recv (q0 := 0) (ci := 1) hE.1 hP rfl rfl, pz_pre hE hZ hS (hP.sub [0, 1, 2] rfl)⟩ rfl rfl hl.1 rfl (lv_room (Nat.le_of_ble_eq_true rfl)) d_Ways_goOn_12 ⟨Nat.zero_le _, Nat.zero_le _⟩)) (fun r hq => ?_)
    subst hq
    refine lv_istore hx hb d_Ways_goOn_15 hl (by decide) rfl (fun ls hl => ?_)
    have hl : lv_has ls 6 [(4, .int (rd fo 64 k)), (0, .ref wy), (1, .ref pr), (2, .int k), (3, .int h)] := hl
    refine lv_iload_n hx hb d_Ways_goOn_17 rfl (lv_at hl 4 rfl) ?_
    refine lv_iload hx hb d_Ways_goOn_18 (lv_at hl 0 rfl) ?_
    refine vp_callSi (va_Run.run (va_runS (As := [.int (rd fo 64 k)]) (rest := [.int h]) ⟨hx, hb, hml, hown, hts⟩ (c_Op_growth l D cI cZ tN tG (rd fo 64 k)) (va_cwS 1 hts (gd3 k_219 k_214 k_24 k_215) rfl rfl rfl (by decide +kernel) ⟨Nat.le_of_ble_eq_true rfl, Nat.le_of_ble_eq_true rfl⟩) ⟨PZ_blind, pz_pre hE hZ hS (hP.sub [] rfl)⟩ rfl rfl hl.1 rfl (lv_room (Nat.le_of_ble_eq_true rfl)) d_Ways_goOn_20 ⟨Nat.zero_le _, Nat.zero_le _⟩)) (fun r hq => ?_)
    subst hq
    refine lv_iadd hx hb d_Ways_goOn_23 ?_
    refine lv_istore hx hb d_Ways_goOn_24 hl (by decide) rfl (fun ls hl => ?_)
    have hl : lv_has ls 6 [(5, .int (h + (o_grow (rd fo 64 k)))), (4, .int (rd fo 64 k)), (0, .ref wy), (1, .ref pr), (2, .int k), (3, .int h)] := hl
    refine lv_iload hx hb d_Ways_goOn_26 (lv_at hl 1 rfl) ?_
    refine vp_callSi (va_Run.run (va_runS (As := [.int (rd fo 64 k)]) (rest := []) ⟨hx, hb, hml, hown, hts⟩ (c_Op_hasNext l (rd fo 64 k)) (va_cwS 1 hts (gd3 k_220 k_204 k_24 k_205) rfl rfl rfl (by decide +kernel) ⟨Nat.le_of_ble_eq_true rfl, Nat.le_of_ble_eq_true rfl⟩) ⟨fun _ _ _ _ q => q, fun _ _ _ => ⟨rfl, trivial⟩⟩ rfl rfl hl.1 rfl (lv_room (Nat.le_of_ble_eq_true rfl)) d_Ways_goOn_28 ⟨Nat.zero_le _, Nat.zero_le _⟩)) (fun r hq => ?_)
    subst hq
    refine lv_if_eq (tgt := 44) hx hb d_Ways_goOn_31 (by decide) (fun h2 => ?_) (fun h2 => ?_)
    · -- (o_next (rd fo 64 k)) = 0
      refine lv_iload hx hb d_Ways_goOn_44 (lv_at hl 1 rfl) ?_
      refine vp_callSi (va_Run.run (va_runS (As := [.int (rd fo 64 k)]) (rest := []) ⟨hx, hb, hml, hown, hts⟩ (c_Op_jumps l (rd fo 64 k)) (va_cwS 1 hts (gd3 k_221 k_222 k_24 k_223) rfl rfl rfl (by decide +kernel) ⟨Nat.le_of_ble_eq_true rfl, Nat.le_of_ble_eq_true rfl⟩) ⟨fun _ _ _ _ q => q, fun _ _ _ => ⟨rfl, trivial⟩⟩ rfl rfl hl.1 rfl (lv_room (Nat.le_of_ble_eq_true rfl)) d_Ways_goOn_46 ⟨Nat.zero_le _, Nat.zero_le _⟩)) (fun r hq => ?_)
      subst hq
      refine lv_if_eq (tgt := 64) hx hb d_Ways_goOn_49 (by decide) (fun h3 => ?_) (fun h3 => ?_)
      · -- (o_jump (rd fo 64 k)) = 0
        refine W.vret hx hb hr (fun t ht hW => ⟨⟨(fr, fw, wc), rfl, ?_, ?_⟩, hS.F ht⟩) hS.2.2 d_Ways_goOn_64
        · first | (simp only [w_goOn, h1, h2, h3, if_true, if_false, eq_self, not_true_eq_false, not_false_eq_true, ne_eq]; done) | (simp only [w_goOn, h1, h2, h3, if_true, if_false, eq_self, not_true_eq_false, not_false_eq_true, ne_eq]; rfl) | (simp [w_goOn, h1, h2, h3]; done)
        · exact ⟨by rw [ht]; exact hP.sub [0, 1, 2, 3, 4, 5] rfl, hD.sub [0, 1, 2, 3, 4, 5] (by decide) rfl⟩
      · -- ¬ (o_jump (rd fo 64 k)) = 0
        refine lv_aload_n hx hb d_Ways_goOn_52 rfl (lv_at hl 2 rfl) ?_
        refine lv_aload_n hx hb d_Ways_goOn_53 rfl (lv_at hl 3 rfl) ?_
        refine lv_aload_n hx hb d_Ways_goOn_54 rfl (lv_at hl 3 rfl) ?_
        refine lv_iload_n hx hb d_Ways_goOn_55 rfl (lv_at hl 4 rfl) ?_
        refine vp_callSi (va_Run.run (va_runV (As := [.int k]) (rest := [.ref pr, .ref wy]) ⟨hx, hb, hml, hown, hts⟩ (c_Program_nAt l D cI cZ tN tG pr po pn kd sz ac fo fn k) (cwV 1 hts (gd4 k_224 k_225 k_226 k_19 k_227) rfl rfl rfl (by decide +kernel) ⟨Nat.le_of_ble_eq_true rfl, Nat.le_of_ble_eq_true rfl⟩) ⟨PZ_blind, va_recv (q0 := 0) (ci := 1) hE.1 hP rfl rfl, pz_pre hE hZ hS (hP.sub [0, 1, 2] rfl)⟩ rfl rfl hl.1 rfl (lv_room (Nat.le_of_ble_eq_true rfl)) d_Ways_goOn_56 ⟨Nat.zero_le _, Nat.zero_le _⟩)) (fun r hq => ?_)
        subst hq
        refine lv_iload hx hb d_Ways_goOn_59 (lv_at hl 0 rfl) ?_
        have hPc := hP.sub (ws' := [(pr, .inr (1, [.int kd, .int sz, .int ac, .ref po, .ref pn])), (po, .inl (cI, 64, .inl fo)), (pn, .inl (cI, 64, .inl fn)), (wy, .inr (2, [.ref re, .ref wa, .int wc])), (re, .inl (cI, 64, .inl fr)), (wa, .inl (cI, 576, .inl fw))]) [0, 1, 2, 3, 4, 5] rfl
        have hDc := hD.sub (ws' := [(pr, .inr (1, [.int kd, .int sz, .int ac, .ref po, .ref pn])), (po, .inl (cI, 64, .inl fo)), (pn, .inl (cI, 64, .inl fn)), (wy, .inr (2, [.ref re, .ref wa, .int wc])), (re, .inl (cI, 64, .inl fr)), (wa, .inl (cI, 576, .inl fw))]) [0, 1, 2, 3, 4, 5] (by decide) rfl
        have hFc := va_free (wc := [(pr, .inr (1, [.int kd, .int sz, .int ac, .ref po, .ref pn])), (po, .inl (cI, 64, .inl fo)), (pn, .inl (cI, 64, .inl fn)), (wy, .inr (2, [.ref re, .ref wa, .int wc])), (re, .inl (cI, 64, .inl fr)), (wa, .inl (cI, 576, .inl fw))]) hD hS hA [0, 1, 2, 3, 4, 5] rfl
        refine va_callv (va_runV (As := [.ref pr, .int (rd fn 64 k), .int (h + (o_grow (rd fo 64 k)))]) (rest := []) ⟨hx, hb, hml, hown, hts⟩ (c_Ways_reach l D cI cZ tN tG s.heap.size pr po pn kd sz ac fo fn wy re wa fr fw wc (rd fn 64 k) (h + (o_grow (rd fo 64 k)))) (cwV 3 hts (gd4 k_163 k_165 k_0 k_20 k_166) rfl rfl rfl (by decide +kernel) ⟨Nat.le_of_ble_eq_true rfl, Nat.le_of_ble_eq_true rfl⟩) ⟨MZ_blind, va_recv (q0 := 3) (ci := 2) hE.1 hP rfl rfl, mz_pre hE hZ hS hPc hDc hFc⟩ rfl rfl hl.1 rfl (lv_room (Nat.le_of_ble_eq_true rfl)) d_Ways_goOn_61 ⟨Nat.zero_le _, Nat.zero_le _⟩) hS (fun q _ h => hFc q h) hFc (fun u t H1 locs ht hvm hw hB hz1 hk1 hS => ?_)
        obtain ⟨hP1, hD1⟩ := hB
        rw [ht] at hP1
        subst hw
        obtain ⟨hP, hD⟩ := va_join (wr := []) (w1 := [(pr, .inr (1, [.int kd, .int sz, .int ac, .ref po, .ref pn])), (po, .inl (cI, 64, .inl fo)), (pn, .inl (cI, 64, .inl fn)), (wy, .inr (2, [.ref re, .ref wa, .int ((w_reach sz (rd fn 64 k) (h + (o_grow (rd fo 64 k))) (fr, fw, wc)).2.2)])), (re, .inl (cI, 64, .inl ((w_reach sz (rd fn 64 k) (h + (o_grow (rd fo 64 k))) (fr, fw, wc)).1))), (wa, .inl (cI, 576, .inl ((w_reach sz (rd fn 64 k) (h + (o_grow (rd fo 64 k))) (fr, fw, wc)).2.1)))]) hP hD [0, 1, 2, 3, 4, 5] [] rfl rfl (by decide) (by decide) hk1 hFc hP1 hD1
        generalize H1 = H at hP hS ⊢
        have hP : va_P D classes [(pr, .inr (1, [.int kd, .int sz, .int ac, .ref po, .ref pn])), (po, .inl (cI, 64, .inl fo)), (pn, .inl (cI, 64, .inl fn)), (wy, .inr (2, [.ref re, .ref wa, .int ((w_reach sz (rd fn 64 k) (h + (o_grow (rd fo 64 k))) (fr, fw, wc)).2.2)])), (re, .inl (cI, 64, .inl ((w_reach sz (rd fn 64 k) (h + (o_grow (rd fo 64 k))) (fr, fw, wc)).1))), (wa, .inl (cI, 576, .inl ((w_reach sz (rd fn 64 k) (h + (o_grow (rd fo 64 k))) (fr, fw, wc)).2.1)))] H := hP
        have hD : va_D A [(pr, .inr (1, [.int kd, .int sz, .int ac, .ref po, .ref pn])), (po, .inl (cI, 64, .inl fo)), (pn, .inl (cI, 64, .inl fn)), (wy, .inr (2, [.ref re, .ref wa, .int ((w_reach sz (rd fn 64 k) (h + (o_grow (rd fo 64 k))) (fr, fw, wc)).2.2)])), (re, .inl (cI, 64, .inl ((w_reach sz (rd fn 64 k) (h + (o_grow (rd fo 64 k))) (fr, fw, wc)).1))), (wa, .inl (cI, 576, .inl ((w_reach sz (rd fn 64 k) (h + (o_grow (rd fo 64 k))) (fr, fw, wc)).2.1)))] := hD
        refine W.vret hx hb hr (fun t ht hW => ⟨⟨((w_reach sz (rd fn 64 k) (h + (o_grow (rd fo 64 k))) (fr, fw, wc)).1, (w_reach sz (rd fn 64 k) (h + (o_grow (rd fo 64 k))) (fr, fw, wc)).2.1, (w_reach sz (rd fn 64 k) (h + (o_grow (rd fo 64 k))) (fr, fw, wc)).2.2), rfl, ?_, ?_⟩, hS.F ht⟩) hS.2.2 d_Ways_goOn_64
        · first | (simp only [w_goOn, h1, h2, h3, if_true, if_false, eq_self, not_true_eq_false, not_false_eq_true, ne_eq]; done) | (simp only [w_goOn, h1, h2, h3, if_true, if_false, eq_self, not_true_eq_false, not_false_eq_true, ne_eq]; rfl) | (simp [w_goOn, h1, h2, h3]; done)
        · exact ⟨by rw [ht]; exact hP.sub [0, 1, 2, 3, 4, 5] rfl, hD.sub [0, 1, 2, 3, 4, 5] (by decide) rfl⟩
    · -- ¬ (o_next (rd fo 64 k)) = 0
      refine lv_aload_n hx hb d_Ways_goOn_34 rfl (lv_at hl 2 rfl) ?_
      refine lv_aload_n hx hb d_Ways_goOn_35 rfl (lv_at hl 3 rfl) ?_
      refine lv_iload_n hx hb d_Ways_goOn_36 rfl (lv_at hl 4 rfl) ?_
      refine lv_iconst (v := 1) hx hb d_Ways_goOn_37 (by decide) ?_
      refine lv_iadd hx hb d_Ways_goOn_38 ?_
      refine lv_iload hx hb d_Ways_goOn_39 (lv_at hl 0 rfl) ?_
      have hPc := hP.sub (ws' := [(pr, .inr (1, [.int kd, .int sz, .int ac, .ref po, .ref pn])), (po, .inl (cI, 64, .inl fo)), (pn, .inl (cI, 64, .inl fn)), (wy, .inr (2, [.ref re, .ref wa, .int wc])), (re, .inl (cI, 64, .inl fr)), (wa, .inl (cI, 576, .inl fw))]) [0, 1, 2, 3, 4, 5] rfl
      have hDc := hD.sub (ws' := [(pr, .inr (1, [.int kd, .int sz, .int ac, .ref po, .ref pn])), (po, .inl (cI, 64, .inl fo)), (pn, .inl (cI, 64, .inl fn)), (wy, .inr (2, [.ref re, .ref wa, .int wc])), (re, .inl (cI, 64, .inl fr)), (wa, .inl (cI, 576, .inl fw))]) [0, 1, 2, 3, 4, 5] (by decide) rfl
      have hFc := va_free (wc := [(pr, .inr (1, [.int kd, .int sz, .int ac, .ref po, .ref pn])), (po, .inl (cI, 64, .inl fo)), (pn, .inl (cI, 64, .inl fn)), (wy, .inr (2, [.ref re, .ref wa, .int wc])), (re, .inl (cI, 64, .inl fr)), (wa, .inl (cI, 576, .inl fw))]) hD hS hA [0, 1, 2, 3, 4, 5] rfl
      refine va_callv (va_runV (As := [.ref pr, .int (k + 1), .int (h + (o_grow (rd fo 64 k)))]) (rest := []) ⟨hx, hb, hml, hown, hts⟩ (c_Ways_reach l D cI cZ tN tG s.heap.size pr po pn kd sz ac fo fn wy re wa fr fw wc (k + 1) (h + (o_grow (rd fo 64 k)))) (cwV 3 hts (gd4 k_163 k_165 k_0 k_20 k_166) rfl rfl rfl (by decide +kernel) ⟨Nat.le_of_ble_eq_true rfl, Nat.le_of_ble_eq_true rfl⟩) ⟨MZ_blind, va_recv (q0 := 3) (ci := 2) hE.1 hP rfl rfl, mz_pre hE hZ hS hPc hDc hFc⟩ rfl rfl hl.1 rfl (lv_room (Nat.le_of_ble_eq_true rfl)) d_Ways_goOn_41 ⟨Nat.zero_le _, Nat.zero_le _⟩) hS (fun q _ h => hFc q h) hFc (fun u t H1 locs ht hvm hw hB hz1 hk1 hS => ?_)
      obtain ⟨hP1, hD1⟩ := hB
      rw [ht] at hP1
      subst hw
      obtain ⟨hP, hD⟩ := va_join (wr := []) (w1 := [(pr, .inr (1, [.int kd, .int sz, .int ac, .ref po, .ref pn])), (po, .inl (cI, 64, .inl fo)), (pn, .inl (cI, 64, .inl fn)), (wy, .inr (2, [.ref re, .ref wa, .int ((w_reach sz (k + 1) (h + (o_grow (rd fo 64 k))) (fr, fw, wc)).2.2)])), (re, .inl (cI, 64, .inl ((w_reach sz (k + 1) (h + (o_grow (rd fo 64 k))) (fr, fw, wc)).1))), (wa, .inl (cI, 576, .inl ((w_reach sz (k + 1) (h + (o_grow (rd fo 64 k))) (fr, fw, wc)).2.1)))]) hP hD [0, 1, 2, 3, 4, 5] [] rfl rfl (by decide) (by decide) hk1 hFc hP1 hD1
      generalize H1 = H at hP hS ⊢
      have hP : va_P D classes [(pr, .inr (1, [.int kd, .int sz, .int ac, .ref po, .ref pn])), (po, .inl (cI, 64, .inl fo)), (pn, .inl (cI, 64, .inl fn)), (wy, .inr (2, [.ref re, .ref wa, .int ((w_reach sz (k + 1) (h + (o_grow (rd fo 64 k))) (fr, fw, wc)).2.2)])), (re, .inl (cI, 64, .inl ((w_reach sz (k + 1) (h + (o_grow (rd fo 64 k))) (fr, fw, wc)).1))), (wa, .inl (cI, 576, .inl ((w_reach sz (k + 1) (h + (o_grow (rd fo 64 k))) (fr, fw, wc)).2.1)))] H := hP
      have hD : va_D A [(pr, .inr (1, [.int kd, .int sz, .int ac, .ref po, .ref pn])), (po, .inl (cI, 64, .inl fo)), (pn, .inl (cI, 64, .inl fn)), (wy, .inr (2, [.ref re, .ref wa, .int ((w_reach sz (k + 1) (h + (o_grow (rd fo 64 k))) (fr, fw, wc)).2.2)])), (re, .inl (cI, 64, .inl ((w_reach sz (k + 1) (h + (o_grow (rd fo 64 k))) (fr, fw, wc)).1))), (wa, .inl (cI, 576, .inl ((w_reach sz (k + 1) (h + (o_grow (rd fo 64 k))) (fr, fw, wc)).2.1)))] := hD
      refine lv_iload hx hb d_Ways_goOn_44 (lv_at hl 1 rfl) ?_
      refine vp_callSi (va_Run.run (va_runS (As := [.int (rd fo 64 k)]) (rest := []) ⟨hx, hb, hml, hown, hts⟩ (c_Op_jumps l (rd fo 64 k)) (va_cwS 1 hts (gd3 k_221 k_222 k_24 k_223) rfl rfl rfl (by decide +kernel) ⟨Nat.le_of_ble_eq_true rfl, Nat.le_of_ble_eq_true rfl⟩) ⟨fun _ _ _ _ q => q, fun _ _ _ => ⟨rfl, trivial⟩⟩ rfl rfl hl.1 rfl (lv_room (Nat.le_of_ble_eq_true rfl)) d_Ways_goOn_46 ⟨Nat.zero_le _, Nat.zero_le _⟩)) (fun r hq => ?_)
      subst hq
      refine lv_if_eq (tgt := 64) hx hb d_Ways_goOn_49 (by decide) (fun h4 => ?_) (fun h4 => ?_)
      · -- (o_jump (rd fo 64 k)) = 0
        refine W.vret hx hb hr (fun t ht hW => ⟨⟨((w_reach sz (k + 1) (h + (o_grow (rd fo 64 k))) (fr, fw, wc)).1, (w_reach sz (k + 1) (h + (o_grow (rd fo 64 k))) (fr, fw, wc)).2.1, (w_reach sz (k + 1) (h + (o_grow (rd fo 64 k))) (fr, fw, wc)).2.2), rfl, ?_, ?_⟩, hS.F ht⟩) hS.2.2 d_Ways_goOn_64
        · first | (simp only [w_goOn, h1, h2, h4, if_true, if_false, eq_self, not_true_eq_false, not_false_eq_true, ne_eq]; done) | (simp only [w_goOn, h1, h2, h4, if_true, if_false, eq_self, not_true_eq_false, not_false_eq_true, ne_eq]; rfl) | (simp [w_goOn, h1, h2, h4]; done)
        · exact ⟨by rw [ht]; exact hP.sub [0, 1, 2, 3, 4, 5] rfl, hD.sub [0, 1, 2, 3, 4, 5] (by decide) rfl⟩
      · -- ¬ (o_jump (rd fo 64 k)) = 0
        refine lv_aload_n hx hb d_Ways_goOn_52 rfl (lv_at hl 2 rfl) ?_
        refine lv_aload_n hx hb d_Ways_goOn_53 rfl (lv_at hl 3 rfl) ?_
        refine lv_aload_n hx hb d_Ways_goOn_54 rfl (lv_at hl 3 rfl) ?_
        refine lv_iload_n hx hb d_Ways_goOn_55 rfl (lv_at hl 4 rfl) ?_
        refine vp_callSi (va_Run.run (va_runV (As := [.int k]) (rest := [.ref pr, .ref wy]) ⟨hx, hb, hml, hown, hts⟩ (c_Program_nAt l D cI cZ tN tG pr po pn kd sz ac fo fn k) (cwV 1 hts (gd4 k_224 k_225 k_226 k_19 k_227) rfl rfl rfl (by decide +kernel) ⟨Nat.le_of_ble_eq_true rfl, Nat.le_of_ble_eq_true rfl⟩) ⟨PZ_blind, va_recv (q0 := 0) (ci := 1) hE.1 hP rfl rfl, pz_pre hE hZ hS (hP.sub [0, 1, 2] rfl)⟩ rfl rfl hl.1 rfl (lv_room (Nat.le_of_ble_eq_true rfl)) d_Ways_goOn_56 ⟨Nat.zero_le _, Nat.zero_le _⟩)) (fun r hq => ?_)
        subst hq
        refine lv_iload hx hb d_Ways_goOn_59 (lv_at hl 0 rfl) ?_
        have hPc := hP.sub (ws' := [(pr, .inr (1, [.int kd, .int sz, .int ac, .ref po, .ref pn])), (po, .inl (cI, 64, .inl fo)), (pn, .inl (cI, 64, .inl fn)), (wy, .inr (2, [.ref re, .ref wa, .int ((w_reach sz (k + 1) (h + (o_grow (rd fo 64 k))) (fr, fw, wc)).2.2)])), (re, .inl (cI, 64, .inl ((w_reach sz (k + 1) (h + (o_grow (rd fo 64 k))) (fr, fw, wc)).1))), (wa, .inl (cI, 576, .inl ((w_reach sz (k + 1) (h + (o_grow (rd fo 64 k))) (fr, fw, wc)).2.1)))]) [0, 1, 2, 3, 4, 5] rfl
        have hDc := hD.sub (ws' := [(pr, .inr (1, [.int kd, .int sz, .int ac, .ref po, .ref pn])), (po, .inl (cI, 64, .inl fo)), (pn, .inl (cI, 64, .inl fn)), (wy, .inr (2, [.ref re, .ref wa, .int ((w_reach sz (k + 1) (h + (o_grow (rd fo 64 k))) (fr, fw, wc)).2.2)])), (re, .inl (cI, 64, .inl ((w_reach sz (k + 1) (h + (o_grow (rd fo 64 k))) (fr, fw, wc)).1))), (wa, .inl (cI, 576, .inl ((w_reach sz (k + 1) (h + (o_grow (rd fo 64 k))) (fr, fw, wc)).2.1)))]) [0, 1, 2, 3, 4, 5] (by decide) rfl
        have hFc := va_free (wc := [(pr, .inr (1, [.int kd, .int sz, .int ac, .ref po, .ref pn])), (po, .inl (cI, 64, .inl fo)), (pn, .inl (cI, 64, .inl fn)), (wy, .inr (2, [.ref re, .ref wa, .int ((w_reach sz (k + 1) (h + (o_grow (rd fo 64 k))) (fr, fw, wc)).2.2)])), (re, .inl (cI, 64, .inl ((w_reach sz (k + 1) (h + (o_grow (rd fo 64 k))) (fr, fw, wc)).1))), (wa, .inl (cI, 576, .inl ((w_reach sz (k + 1) (h + (o_grow (rd fo 64 k))) (fr, fw, wc)).2.1)))]) hD hS hA [0, 1, 2, 3, 4, 5] rfl
        refine va_callv (va_runV (As := [.ref pr, .int (rd fn 64 k), .int (h + (o_grow (rd fo 64 k)))]) (rest := []) ⟨hx, hb, hml, hown, hts⟩ (c_Ways_reach l D cI cZ tN tG H.size pr po pn kd sz ac fo fn wy re wa ((w_reach sz (k + 1) (h + (o_grow (rd fo 64 k))) (fr, fw, wc)).1) ((w_reach sz (k + 1) (h + (o_grow (rd fo 64 k))) (fr, fw, wc)).2.1) ((w_reach sz (k + 1) (h + (o_grow (rd fo 64 k))) (fr, fw, wc)).2.2) (rd fn 64 k) (h + (o_grow (rd fo 64 k)))) (cwV 3 hts (gd4 k_163 k_165 k_0 k_20 k_166) rfl rfl rfl (by decide +kernel) ⟨Nat.le_of_ble_eq_true rfl, Nat.le_of_ble_eq_true rfl⟩) ⟨MZ_blind, va_recv (q0 := 3) (ci := 2) hE.1 hP rfl rfl, mz_pre hE hZ hS hPc hDc hFc⟩ rfl rfl hl.1 rfl (lv_room (Nat.le_of_ble_eq_true rfl)) d_Ways_goOn_61 ⟨Nat.zero_le _, Nat.zero_le _⟩) hS (fun q _ h => hFc q h) hFc (fun u t H1 locs ht hvm hw hB hz1 hk1 hS => ?_)
        obtain ⟨hP1, hD1⟩ := hB
        rw [ht] at hP1
        subst hw
        obtain ⟨hP, hD⟩ := va_join (wr := []) (w1 := [(pr, .inr (1, [.int kd, .int sz, .int ac, .ref po, .ref pn])), (po, .inl (cI, 64, .inl fo)), (pn, .inl (cI, 64, .inl fn)), (wy, .inr (2, [.ref re, .ref wa, .int ((w_reach sz (rd fn 64 k) (h + (o_grow (rd fo 64 k))) (((w_reach sz (k + 1) (h + (o_grow (rd fo 64 k))) (fr, fw, wc)).1), ((w_reach sz (k + 1) (h + (o_grow (rd fo 64 k))) (fr, fw, wc)).2.1), ((w_reach sz (k + 1) (h + (o_grow (rd fo 64 k))) (fr, fw, wc)).2.2))).2.2)])), (re, .inl (cI, 64, .inl ((w_reach sz (rd fn 64 k) (h + (o_grow (rd fo 64 k))) (((w_reach sz (k + 1) (h + (o_grow (rd fo 64 k))) (fr, fw, wc)).1), ((w_reach sz (k + 1) (h + (o_grow (rd fo 64 k))) (fr, fw, wc)).2.1), ((w_reach sz (k + 1) (h + (o_grow (rd fo 64 k))) (fr, fw, wc)).2.2))).1))), (wa, .inl (cI, 576, .inl ((w_reach sz (rd fn 64 k) (h + (o_grow (rd fo 64 k))) (((w_reach sz (k + 1) (h + (o_grow (rd fo 64 k))) (fr, fw, wc)).1), ((w_reach sz (k + 1) (h + (o_grow (rd fo 64 k))) (fr, fw, wc)).2.1), ((w_reach sz (k + 1) (h + (o_grow (rd fo 64 k))) (fr, fw, wc)).2.2))).2.1)))]) hP hD [0, 1, 2, 3, 4, 5] [] rfl rfl (by decide) (by decide) hk1 hFc hP1 hD1
        generalize H1 = H at hP hS ⊢
        have hP : va_P D classes [(pr, .inr (1, [.int kd, .int sz, .int ac, .ref po, .ref pn])), (po, .inl (cI, 64, .inl fo)), (pn, .inl (cI, 64, .inl fn)), (wy, .inr (2, [.ref re, .ref wa, .int ((w_reach sz (rd fn 64 k) (h + (o_grow (rd fo 64 k))) (((w_reach sz (k + 1) (h + (o_grow (rd fo 64 k))) (fr, fw, wc)).1), ((w_reach sz (k + 1) (h + (o_grow (rd fo 64 k))) (fr, fw, wc)).2.1), ((w_reach sz (k + 1) (h + (o_grow (rd fo 64 k))) (fr, fw, wc)).2.2))).2.2)])), (re, .inl (cI, 64, .inl ((w_reach sz (rd fn 64 k) (h + (o_grow (rd fo 64 k))) (((w_reach sz (k + 1) (h + (o_grow (rd fo 64 k))) (fr, fw, wc)).1), ((w_reach sz (k + 1) (h + (o_grow (rd fo 64 k))) (fr, fw, wc)).2.1), ((w_reach sz (k + 1) (h + (o_grow (rd fo 64 k))) (fr, fw, wc)).2.2))).1))), (wa, .inl (cI, 576, .inl ((w_reach sz (rd fn 64 k) (h + (o_grow (rd fo 64 k))) (((w_reach sz (k + 1) (h + (o_grow (rd fo 64 k))) (fr, fw, wc)).1), ((w_reach sz (k + 1) (h + (o_grow (rd fo 64 k))) (fr, fw, wc)).2.1), ((w_reach sz (k + 1) (h + (o_grow (rd fo 64 k))) (fr, fw, wc)).2.2))).2.1)))] H := hP
        have hD : va_D A [(pr, .inr (1, [.int kd, .int sz, .int ac, .ref po, .ref pn])), (po, .inl (cI, 64, .inl fo)), (pn, .inl (cI, 64, .inl fn)), (wy, .inr (2, [.ref re, .ref wa, .int ((w_reach sz (rd fn 64 k) (h + (o_grow (rd fo 64 k))) (((w_reach sz (k + 1) (h + (o_grow (rd fo 64 k))) (fr, fw, wc)).1), ((w_reach sz (k + 1) (h + (o_grow (rd fo 64 k))) (fr, fw, wc)).2.1), ((w_reach sz (k + 1) (h + (o_grow (rd fo 64 k))) (fr, fw, wc)).2.2))).2.2)])), (re, .inl (cI, 64, .inl ((w_reach sz (rd fn 64 k) (h + (o_grow (rd fo 64 k))) (((w_reach sz (k + 1) (h + (o_grow (rd fo 64 k))) (fr, fw, wc)).1), ((w_reach sz (k + 1) (h + (o_grow (rd fo 64 k))) (fr, fw, wc)).2.1), ((w_reach sz (k + 1) (h + (o_grow (rd fo 64 k))) (fr, fw, wc)).2.2))).1))), (wa, .inl (cI, 576, .inl ((w_reach sz (rd fn 64 k) (h + (o_grow (rd fo 64 k))) (((w_reach sz (k + 1) (h + (o_grow (rd fo 64 k))) (fr, fw, wc)).1), ((w_reach sz (k + 1) (h + (o_grow (rd fo 64 k))) (fr, fw, wc)).2.1), ((w_reach sz (k + 1) (h + (o_grow (rd fo 64 k))) (fr, fw, wc)).2.2))).2.1)))] := hD
        refine W.vret hx hb hr (fun t ht hW => ⟨⟨((w_reach sz (rd fn 64 k) (h + (o_grow (rd fo 64 k))) (((w_reach sz (k + 1) (h + (o_grow (rd fo 64 k))) (fr, fw, wc)).1), ((w_reach sz (k + 1) (h + (o_grow (rd fo 64 k))) (fr, fw, wc)).2.1), ((w_reach sz (k + 1) (h + (o_grow (rd fo 64 k))) (fr, fw, wc)).2.2))).1, (w_reach sz (rd fn 64 k) (h + (o_grow (rd fo 64 k))) (((w_reach sz (k + 1) (h + (o_grow (rd fo 64 k))) (fr, fw, wc)).1), ((w_reach sz (k + 1) (h + (o_grow (rd fo 64 k))) (fr, fw, wc)).2.1), ((w_reach sz (k + 1) (h + (o_grow (rd fo 64 k))) (fr, fw, wc)).2.2))).2.1, (w_reach sz (rd fn 64 k) (h + (o_grow (rd fo 64 k))) (((w_reach sz (k + 1) (h + (o_grow (rd fo 64 k))) (fr, fw, wc)).1), ((w_reach sz (k + 1) (h + (o_grow (rd fo 64 k))) (fr, fw, wc)).2.1), ((w_reach sz (k + 1) (h + (o_grow (rd fo 64 k))) (fr, fw, wc)).2.2))).2.2), rfl, ?_, ?_⟩, hS.F ht⟩) hS.2.2 d_Ways_goOn_64
        · first | (simp only [w_goOn, h1, h2, h4, if_true, if_false, eq_self, not_true_eq_false, not_false_eq_true, ne_eq]; done) | (simp only [w_goOn, h1, h2, h4, if_true, if_false, eq_self, not_true_eq_false, not_false_eq_true, ne_eq]; rfl) | (simp [w_goOn, h1, h2, h4]; done)
        · exact ⟨by rw [ht]; exact hP.sub [0, 1, 2, 3, 4, 5] rfl, hD.sub [0, 1, 2, 3, 4, 5] (by decide) rfl⟩
  · -- (p_cbd kd sz ac fo fn k h) = 0
    refine W.vret hx hb hr (fun t ht hW => ⟨⟨(fr, fw, wc), rfl, ?_, ?_⟩, hS.F ht⟩) hS.2.2 d_Ways_goOn_9
    · first | (simp only [w_goOn, h1, if_true, if_false, eq_self, not_true_eq_false, not_false_eq_true, ne_eq]; done) | (simp only [w_goOn, h1, if_true, if_false, eq_self, not_true_eq_false, not_false_eq_true, ne_eq]; rfl) | (simp [w_goOn, h1]; done)
    · exact ⟨by rw [ht]; exact hP.sub [0, 1, 2, 3, 4, 5] rfl, hD.sub [0, 1, 2, 3, 4, 5] (by decide) rfl⟩
