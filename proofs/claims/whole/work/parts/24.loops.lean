set_option maxHeartbeats 4000000 in
set_option maxRecDepth 100000 in
theorem c_Ways_follow (l : Launch) (D : va_G) (cI cZ : ClassId) (tN tG : Nat) (hz : Nat) (pr po pn : Nat) (kd sz ac : Int32) (fo fn : Nat → Int32) (wy re wa : Nat) (fr fw : Nat → Int32) (wc : Int32) : Met l y_Ways_follow w_Ways_follow (rmk 4) (va_Pc [.ref wy, .ref pr] (MZ D cI cZ tN tG [(pr, .inr (1, [.int kd, .int sz, .int ac, .ref po, .ref pn])), (po, .inl (cI, 64, .inl fo)), (pn, .inl (cI, 64, .inl fn)), (wy, .inr (2, [.ref re, .ref wa, .int wc])), (re, .inl (cI, 64, .inl fr)), (wa, .inl (cI, 576, .inl fw))] hz)) (va_Qv (fun u : WS => u = w_follow kd sz ac fo fn fw) (fun u t => ME D (va_A [(pr, .inr (1, [.int kd, .int sz, .int ac, .ref po, .ref pn])), (po, .inl (cI, 64, .inl fo)), (pn, .inl (cI, 64, .inl fn)), (wy, .inr (2, [.ref re, .ref wa, .int wc])), (re, .inl (cI, 64, .inl fr)), (wa, .inl (cI, 576, .inl fw))] hz) [(pr, .inr (1, [.int kd, .int sz, .int ac, .ref po, .ref pn])), (po, .inl (cI, 64, .inl fo)), (pn, .inl (cI, 64, .inl fn)), (wy, .inr (2, [.ref re, .ref wa, .int u.2.2])), (re, .inl (cI, 64, .inl u.1)), (wa, .inl (cI, 576, .inl u.2.1))] t) (va_A [(pr, .inr (1, [.int kd, .int sz, .int ac, .ref po, .ref pn])), (po, .inl (cI, 64, .inl fo)), (pn, .inl (cI, 64, .inl fn)), (wy, .inr (2, [.ref re, .ref wa, .int wc])), (re, .inl (cI, 64, .inl fr)), (wa, .inl (cI, 576, .inl fw))] hz)) 0 0 (va_A [(pr, .inr (1, [.int kd, .int sz, .int ac, .ref po, .ref pn])), (po, .inl (cI, 64, .inl fo)), (pn, .inl (cI, 64, .inl fn)), (wy, .inr (2, [.ref re, .ref wa, .int wc])), (re, .inl (cI, 64, .inl fr)), (wa, .inl (cI, 576, .inl fw))] hz) := by
  refine Met.ofW (cc := b_Ways_follow) (maxL := 4) (ret := none) (by decide) rfl ?_
  intro p e s m args below meth c s₁ B hml hv
  obtain ⟨rfl, hsz, hP, hE, hD0, hZ⟩ := hv
  have hx := B.exec
  have hb := B.bytes
  have hr := B.returns
  have hts : ∀ w ∈ gW, w.before _ s = true := fun w h => atoms_spec (ws := w_Ways_follow) B.pre w (List.mem_cons_of_mem _ h)
  have hown : s.vm.findClass R_Ways = some m.cls := findClass_of_methodNamed B.named
  have hlocks := B.notSynchronized
  subst hsz
  have hD := hD0.self (sz := s.heap.size)
  have hA : ∀ q : Nat, s.heap.size ≤ q → va_A [(pr, .inr (1, [.int kd, .int sz, .int ac, .ref po, .ref pn])), (po, .inl (cI, 64, .inl fo)), (pn, .inl (cI, 64, .inl fn)), (wy, .inr (2, [.ref re, .ref wa, .int wc])), (re, .inl (cI, 64, .inl fr)), (wa, .inl (cI, 576, .inl fw))] s.heap.size q := fun q h => Or.inr h
  generalize va_A [(pr, .inr (1, [.int kd, .int sz, .int ac, .ref po, .ref pn])), (po, .inl (cI, 64, .inl fo)), (pn, .inl (cI, 64, .inl fn)), (wy, .inr (2, [.ref re, .ref wa, .int wc])), (re, .inl (cI, 64, .inl fr)), (wa, .inl (cI, 576, .inl fw))] s.heap.size = A at hD hA hZ ⊢
  have hS : va_S A s.heap s.heap [] := va_S.rf
  have hP : va_P D classes [(pr, .inr (1, [.int kd, .int sz, .int ac, .ref po, .ref pn])), (po, .inl (cI, 64, .inl fo)), (pn, .inl (cI, 64, .inl fn)), (wy, .inr (2, [.ref re, .ref wa, .int wc])), (re, .inl (cI, 64, .inl fr)), (wa, .inl (cI, 576, .inl fw))] s.heap := hP
  have hD : va_D A [(pr, .inr (1, [.int kd, .int sz, .int ac, .ref po, .ref pn])), (po, .inl (cI, 64, .inl fo)), (pn, .inl (cI, 64, .inl fn)), (wy, .inr (2, [.ref re, .ref wa, .int wc])), (re, .inl (cI, 64, .inl fr)), (wa, .inl (cI, 576, .inl fw))] := hD
  have hl := lv_entry ([.ref wy, .ref pr]) (n := 4) (Nat.le_of_ble_eq_true rfl)
  rw [lg_entry_eq]
  generalize (lg_sl ([.ref wy, .ref pr]) ++ List.replicate (4 - (lg_sl ([.ref wy, .ref pr])).length) Slot.unset).toArray = ls at hl ⊢
  have hl : lv_has ls 4 [(0, .ref wy), (1, .ref pr)] := hl
  refine lv_aload_n hx hb d_Ways_follow_0 rfl (lv_at hl 0 rfl) ?_
  refine va_get (D := D) (ci := 2) (v := .ref re) (C := R_Ways) (T := F_Ways) (N := 3) hx hb hts in_Ways hown hE.1 hP 3 rfl rfl 0 (by decide) (hts _ k_66) (fun _ h9 => h9) rfl d_Ways_follow_1 ?_
  refine lv_iconst (v := 0) hx hb d_Ways_follow_4 (by decide) ?_
  have hPc := hP.sub (ws' := [(re, .inl (cI, 64, .inl fr))]) [4] rfl
  have hDc := hD.sub (ws' := [(re, .inl (cI, 64, .inl fr))]) [4] (by decide) rfl
  have hFc := va_free (wc := [(re, .inl (cI, 64, .inl fr))]) hD hS hA [4] rfl
  refine va_callv (va_runS (As := [.ref re, .int 0]) (rest := []) ⟨hx, hb, hml, hown, hts⟩ (c_Arrays_fill l D cI cZ tN tG s.heap.size re 64 fr 0 (by decide)) (va_cwS 2 hts (gd3 k_160 k_161 k_23 k_162) rfl rfl rfl (by decide +kernel) ⟨Nat.le_of_ble_eq_true rfl, Nat.le_of_ble_eq_true rfl⟩) ⟨MZ_blind, mz_pre hE hZ hS hPc hDc hFc⟩ rfl rfl hl.1 rfl (lv_room (Nat.le_of_ble_eq_true rfl)) d_Ways_follow_5 ⟨Nat.zero_le _, Nat.zero_le _⟩) hS (fun q _ h => hFc q h) hFc (fun u t H1 locs ht hvm hw hB hz1 hk1 hS => ?_)
  obtain ⟨hP1, hD1⟩ := hB
  rw [ht] at hP1
  obtain ⟨hP, hD⟩ := va_join (wr := [(pr, .inr (1, [.int kd, .int sz, .int ac, .ref po, .ref pn])), (po, .inl (cI, 64, .inl fo)), (pn, .inl (cI, 64, .inl fn)), (wy, .inr (2, [.ref re, .ref wa, .int wc])), (wa, .inl (cI, 576, .inl fw))]) (w1 := [(re, .inl (cI, 64, .inl (fun _ => 0)))]) hP hD [4] [0, 1, 2, 3, 5] rfl rfl (by decide) (by decide) hk1 hFc hP1 hD1
  generalize H1 = H at hP hS ⊢
  have hP : va_P D classes [(pr, .inr (1, [.int kd, .int sz, .int ac, .ref po, .ref pn])), (po, .inl (cI, 64, .inl fo)), (pn, .inl (cI, 64, .inl fn)), (wy, .inr (2, [.ref re, .ref wa, .int wc])), (wa, .inl (cI, 576, .inl fw)), (re, .inl (cI, 64, .inl (fun _ => 0)))] H := hP
  have hD : va_D A [(pr, .inr (1, [.int kd, .int sz, .int ac, .ref po, .ref pn])), (po, .inl (cI, 64, .inl fo)), (pn, .inl (cI, 64, .inl fn)), (wy, .inr (2, [.ref re, .ref wa, .int wc])), (wa, .inl (cI, 576, .inl fw)), (re, .inl (cI, 64, .inl (fun _ => 0)))] := hD
  refine lv_aload_n hx hb d_Ways_follow_8 rfl (lv_at hl 0 rfl) ?_
  refine lv_iconst (v := 0) hx hb d_Ways_follow_9 (by decide) ?_
  refine va_put (D := D) (ci := 2) (v := .int 0) (ty := .int) (C := R_Ways) (T := F_Ways) (N := 3) hx hb hts in_Ways t_Ways t_Ways_ok n_Ways hown hE.1 hP hD hS 3 rfl rfl 2 (by decide) (hts _ k_69) (fun _ h9 => h9) rfl (by decide +kernel) rfl rfl (Nat.le_of_ble_eq_true rfl) d_Ways_follow_10 (fun H locs hP hD hS => ?_)
  have hP : va_P D classes [(pr, .inr (1, [.int kd, .int sz, .int ac, .ref po, .ref pn])), (po, .inl (cI, 64, .inl fo)), (pn, .inl (cI, 64, .inl fn)), (wy, .inr (2, [.ref re, .ref wa, .int 0])), (wa, .inl (cI, 576, .inl fw)), (re, .inl (cI, 64, .inl (fun _ => 0)))] H := hP
  have hD : va_D A [(pr, .inr (1, [.int kd, .int sz, .int ac, .ref po, .ref pn])), (po, .inl (cI, 64, .inl fo)), (pn, .inl (cI, 64, .inl fn)), (wy, .inr (2, [.ref re, .ref wa, .int 0])), (wa, .inl (cI, 576, .inl fw)), (re, .inl (cI, 64, .inl (fun _ => 0)))] := hD
  refine lv_aload_n hx hb d_Ways_follow_13 rfl (lv_at hl 0 rfl) ?_
  refine lv_aload_n hx hb d_Ways_follow_14 rfl (lv_at hl 1 rfl) ?_
  refine lv_iconst (v := 0) hx hb d_Ways_follow_15 (by decide) ?_
  refine lv_iconst (v := 0) hx hb d_Ways_follow_16 (by decide) ?_
  have hPc := hP.sub (ws' := [(pr, .inr (1, [.int kd, .int sz, .int ac, .ref po, .ref pn])), (po, .inl (cI, 64, .inl fo)), (pn, .inl (cI, 64, .inl fn)), (wy, .inr (2, [.ref re, .ref wa, .int 0])), (re, .inl (cI, 64, .inl (fun _ => 0))), (wa, .inl (cI, 576, .inl fw))]) [0, 1, 2, 3, 5, 4] rfl
  have hDc := hD.sub (ws' := [(pr, .inr (1, [.int kd, .int sz, .int ac, .ref po, .ref pn])), (po, .inl (cI, 64, .inl fo)), (pn, .inl (cI, 64, .inl fn)), (wy, .inr (2, [.ref re, .ref wa, .int 0])), (re, .inl (cI, 64, .inl (fun _ => 0))), (wa, .inl (cI, 576, .inl fw))]) [0, 1, 2, 3, 5, 4] (by decide) rfl
  have hFc := va_free (wc := [(pr, .inr (1, [.int kd, .int sz, .int ac, .ref po, .ref pn])), (po, .inl (cI, 64, .inl fo)), (pn, .inl (cI, 64, .inl fn)), (wy, .inr (2, [.ref re, .ref wa, .int 0])), (re, .inl (cI, 64, .inl (fun _ => 0))), (wa, .inl (cI, 576, .inl fw))]) hD hS hA [0, 1, 2, 3, 5, 4] rfl
  refine va_callv (va_runV (As := [.ref pr, .int 0, .int 0]) (rest := []) ⟨hx, hb, hml, hown, hts⟩ (c_Ways_reach l D cI cZ tN tG H.size pr po pn kd sz ac fo fn wy re wa (fun _ => 0) fw 0 0 0) (cwV 3 hts (gd4 k_163 k_165 k_0 k_20 k_166) rfl rfl rfl (by decide +kernel) ⟨Nat.le_of_ble_eq_true rfl, Nat.le_of_ble_eq_true rfl⟩) ⟨MZ_blind, va_recv (q0 := 3) (ci := 2) hE.1 hP rfl rfl, mz_pre hE hZ hS hPc hDc hFc⟩ rfl rfl hl.1 rfl (lv_room (Nat.le_of_ble_eq_true rfl)) d_Ways_follow_17 ⟨Nat.zero_le _, Nat.zero_le _⟩) hS (fun q _ h => hFc q h) hFc (fun u t H1 locs ht hvm hw hB hz1 hk1 hS => ?_)
  obtain ⟨hP1, hD1⟩ := hB
  rw [ht] at hP1
  subst hw
  obtain ⟨hP, hD⟩ := va_join (wr := []) (w1 := [(pr, .inr (1, [.int kd, .int sz, .int ac, .ref po, .ref pn])), (po, .inl (cI, 64, .inl fo)), (pn, .inl (cI, 64, .inl fn)), (wy, .inr (2, [.ref re, .ref wa, .int ((w_reach sz 0 0 ((fun _ => 0), fw, 0)).2.2)])), (re, .inl (cI, 64, .inl ((w_reach sz 0 0 ((fun _ => 0), fw, 0)).1))), (wa, .inl (cI, 576, .inl ((w_reach sz 0 0 ((fun _ => 0), fw, 0)).2.1)))]) hP hD [0, 1, 2, 3, 5, 4] [] rfl rfl (by decide) (by decide) hk1 hFc hP1 hD1
  generalize H1 = H at hP hS ⊢
  have hP : va_P D classes [(pr, .inr (1, [.int kd, .int sz, .int ac, .ref po, .ref pn])), (po, .inl (cI, 64, .inl fo)), (pn, .inl (cI, 64, .inl fn)), (wy, .inr (2, [.ref re, .ref wa, .int ((w_reach sz 0 0 ((fun _ => 0), fw, 0)).2.2)])), (re, .inl (cI, 64, .inl ((w_reach sz 0 0 ((fun _ => 0), fw, 0)).1))), (wa, .inl (cI, 576, .inl ((w_reach sz 0 0 ((fun _ => 0), fw, 0)).2.1)))] H := hP
  have hD : va_D A [(pr, .inr (1, [.int kd, .int sz, .int ac, .ref po, .ref pn])), (po, .inl (cI, 64, .inl fo)), (pn, .inl (cI, 64, .inl fn)), (wy, .inr (2, [.ref re, .ref wa, .int ((w_reach sz 0 0 ((fun _ => 0), fw, 0)).2.2)])), (re, .inl (cI, 64, .inl ((w_reach sz 0 0 ((fun _ => 0), fw, 0)).1))), (wa, .inl (cI, 576, .inl ((w_reach sz 0 0 ((fun _ => 0), fw, 0)).2.1)))] := hD
  refine lv_iconst (v := 0) hx hb d_Ways_follow_20 (by decide) ?_
  refine lv_istore_n hx hb d_Ways_follow_21 rfl hl (by decide) rfl (fun ls hl => ?_)
  have hl : lv_has ls 4 [(2, .int 0), (0, .ref wy), (1, .ref pr)] := hl
  have key : ∀ (N : Nat) (j : Nat) (fr1 fw1 : Nat → Int32) (wc1 : Int32) (H : Heap) (locs : List Loc) (ls : Array Slot), j + N = 576 → lv_has ls 4 [(2, .int (nI j)), (0, .ref wy), (1, .ref pr)] → va_P D classes [(pr, .inr (1, [.int kd, .int sz, .int ac, .ref po, .ref pn])), (po, .inl (cI, 64, .inl fo)), (pn, .inl (cI, 64, .inl fn)), (wy, .inr (2, [.ref re, .ref wa, .int wc1])), (re, .inl (cI, 64, .inl fr1)), (wa, .inl (cI, 576, .inl fw1))] H → va_D A [(pr, .inr (1, [.int kd, .int sz, .int ac, .ref po, .ref pn])), (po, .inl (cI, 64, .inl fo)), (pn, .inl (cI, 64, .inl fn)), (wy, .inr (2, [.ref re, .ref wa, .int wc1])), (re, .inl (cI, 64, .inl fr1)), (wa, .inl (cI, 576, .inl fw1))] → w_loop kd sz ac fo fn N (nI j) (fr1, fw1, wc1) = w_follow kd sz ac fo fn fw → va_S A s.heap H locs → W p l e (headSpec w_Ways_follow (rmk 4)).room s m ([.ref wy, .ref pr] : List Value).toArray below meth c H locs 0 0 (MQ below (va_Qv (fun u : WS => u = w_follow kd sz ac fo fn fw) (fun u t => ME D A [(pr, .inr (1, [.int kd, .int sz, .int ac, .ref po, .ref pn])), (po, .inl (cI, 64, .inl fo)), (pn, .inl (cI, 64, .inl fn)), (wy, .inr (2, [.ref re, .ref wa, .int u.2.2])), (re, .inl (cI, 64, .inl u.1)), (wa, .inl (cI, 576, .inl u.2.1))] t) A) ([.ref wy, .ref pr] : List Value).toArray s 0 0 A) (F0 m 22 ls []) := by
    intro N
    induction N with
    | zero =>
      intro j fr1 fw1 wc1 H locs ls hjN hl hP hD hT hS
      refine lv_iload_n hx hb d_Ways_follow_22 rfl (lv_at hl 0 rfl) ?_
      refine lv_aload_n hx hb d_Ways_follow_23 rfl (lv_at hl 1 rfl) ?_
      refine va_get (D := D) (ci := 2) (v := .ref wa) (C := R_Ways) (T := F_Ways) (N := 3) hx hb hts in_Ways hown hE.1 hP 3 rfl rfl 1 (by decide) (hts _ k_68) (fun _ h9 => h9) rfl d_Ways_follow_24 ?_
      refine va_alen (v := (nI 576)) hx hb hE.1 hP 5 0 rfl rfl rfl d_Ways_follow_27 ?_
      refine lv_icmp_ge (tgt := 67) hx hb d_Ways_follow_28 (by decide) (fun h1 => ?_) (fun h1 => ?_)
      · -- (nI 576) ≤ (nI j)
        refine W.vret hx hb hr (fun t ht hW => ⟨⟨(fr1, fw1, wc1), rfl, ?_, ?_⟩, hS.F ht⟩) hS.2.2 d_Ways_follow_67
        · (rw [← hT]; rfl)
        · exact ⟨by rw [ht]; exact hP.sub [0, 1, 2, 3, 4, 5] rfl, hD.sub [0, 1, 2, 3, 4, 5] (by decide) rfl⟩
      · -- ¬ (nI 576) ≤ (nI j)
        exact absurd (nI_le (by omega) (by omega)) h1
    | succ N ih =>
      intro j fr1 fw1 wc1 H locs ls hjN hl hP hD hT hS
      refine lv_iload_n hx hb d_Ways_follow_22 rfl (lv_at hl 0 rfl) ?_
      refine lv_aload_n hx hb d_Ways_follow_23 rfl (lv_at hl 1 rfl) ?_
      refine va_get (D := D) (ci := 2) (v := .ref wa) (C := R_Ways) (T := F_Ways) (N := 3) hx hb hts in_Ways hown hE.1 hP 3 rfl rfl 1 (by decide) (hts _ k_68) (fun _ h9 => h9) rfl d_Ways_follow_24 ?_
      refine va_alen (v := (nI 576)) hx hb hE.1 hP 5 0 rfl rfl rfl d_Ways_follow_27 ?_
      refine lv_icmp_ge (tgt := 67) hx hb d_Ways_follow_28 (by decide) (fun h2 => ?_) (fun h2 => ?_)
      · -- (nI 576) ≤ (nI j)
        exact absurd h2 (nI_ge (by omega) (by omega))
      · -- ¬ (nI 576) ≤ (nI j)
        refine lv_iload_n hx hb d_Ways_follow_31 rfl (lv_at hl 0 rfl) ?_
        refine lv_aload_n hx hb d_Ways_follow_32 rfl (lv_at hl 1 rfl) ?_
        refine va_get (D := D) (ci := 2) (v := .int wc1) (C := R_Ways) (T := F_Ways) (N := 3) hx hb hts in_Ways hown hE.1 hP 3 rfl rfl 2 (by decide) (hts _ k_69) (fun _ h9 => h9) rfl d_Ways_follow_33 ?_
        refine lv_icmp_ge (tgt := 67) hx hb d_Ways_follow_36 (by decide) (fun h3 => ?_) (fun h3 => ?_)
        · -- wc1 ≤ (nI j)
          refine W.vret hx hb hr (fun t ht hW => ⟨⟨(fr1, fw1, wc1), rfl, ?_, ?_⟩, hS.F ht⟩) hS.2.2 d_Ways_follow_67
          · (rw [← hT]; simp only [w_loop, h2, h3, if_true, if_false])
          · exact ⟨by rw [ht]; exact hP.sub [0, 1, 2, 3, 4, 5] rfl, hD.sub [0, 1, 2, 3, 4, 5] (by decide) rfl⟩
        · -- ¬ wc1 ≤ (nI j)
          refine lv_aload_n hx hb d_Ways_follow_39 rfl (lv_at hl 1 rfl) ?_
          refine va_get (D := D) (ci := 2) (v := .ref wa) (C := R_Ways) (T := F_Ways) (N := 3) hx hb hts in_Ways hown hE.1 hP 3 rfl rfl 1 (by decide) (hts _ k_68) (fun _ h9 => h9) rfl d_Ways_follow_40 ?_
          refine lv_iload_n hx hb d_Ways_follow_43 rfl (lv_at hl 0 rfl) ?_
          refine vp_callSi (va_Run.run (va_runSN (As := [.ref wa, .int (nI j)]) (rest := []) ⟨hx, hb, hml, hown, hts⟩ (c_SJ_read l wa 576 fw1 (nI j) (by decide)) ⟨va_cnB 2 hts (gd k_177) rfl rfl rfl (hE.2 _ nm_3) (hts _ k_18) (by decide +kernel) ⟨Nat.le_of_ble_eq_true rfl, Nat.le_of_ble_eq_true rfl⟩, hts _ k_176, trivial⟩ (rp_pre hE.1 hP 5 0 rfl rfl) rfl rfl hl.1 rfl (lv_room (Nat.le_of_ble_eq_true rfl)) d_Ways_follow_44 ⟨Nat.zero_le _, Nat.zero_le _⟩)) (fun r hq => ?_)
          subst hq
          refine lv_istore_n hx hb d_Ways_follow_47 rfl hl (by decide) rfl (fun ls hl => ?_)
          have hl : lv_has ls 4 [(3, .int (rd fw1 576 (nI j))), (2, .int (nI j)), (0, .ref wy), (1, .ref pr)] := hl
          refine lv_aload_n hx hb d_Ways_follow_48 rfl (lv_at hl 2 rfl) ?_
          refine lv_aload_n hx hb d_Ways_follow_49 rfl (lv_at hl 3 rfl) ?_
          refine lv_iload_n hx hb d_Ways_follow_50 rfl (lv_at hl 0 rfl) ?_
          refine lv_bipush (v := 9) hx hb d_Ways_follow_51 (by decide) ?_
          refine lv_idiv hx hb d_Ways_follow_53 (by decide) ?_
          refine lv_iload_n hx hb d_Ways_follow_54 rfl (lv_at hl 0 rfl) ?_
          refine lv_bipush (v := 9) hx hb d_Ways_follow_55 (by decide) ?_
          refine lv_irem hx hb d_Ways_follow_57 (by decide) ?_
          have hPc := hP.sub (ws' := [(pr, .inr (1, [.int kd, .int sz, .int ac, .ref po, .ref pn])), (po, .inl (cI, 64, .inl fo)), (pn, .inl (cI, 64, .inl fn)), (wy, .inr (2, [.ref re, .ref wa, .int wc1])), (re, .inl (cI, 64, .inl fr1)), (wa, .inl (cI, 576, .inl fw1))]) [0, 1, 2, 3, 4, 5] rfl
          have hDc := hD.sub (ws' := [(pr, .inr (1, [.int kd, .int sz, .int ac, .ref po, .ref pn])), (po, .inl (cI, 64, .inl fo)), (pn, .inl (cI, 64, .inl fn)), (wy, .inr (2, [.ref re, .ref wa, .int wc1])), (re, .inl (cI, 64, .inl fr1)), (wa, .inl (cI, 576, .inl fw1))]) [0, 1, 2, 3, 4, 5] (by decide) rfl
          have hFc := va_free (wc := [(pr, .inr (1, [.int kd, .int sz, .int ac, .ref po, .ref pn])), (po, .inl (cI, 64, .inl fo)), (pn, .inl (cI, 64, .inl fn)), (wy, .inr (2, [.ref re, .ref wa, .int wc1])), (re, .inl (cI, 64, .inl fr1)), (wa, .inl (cI, 576, .inl fw1))]) hD hS hA [0, 1, 2, 3, 4, 5] rfl
          refine va_callv (va_runV (As := [.ref pr, .int ((rd fw1 576 (nI j)) / 9), .int ((rd fw1 576 (nI j)) - (rd fw1 576 (nI j)) / 9 * 9)]) (rest := []) ⟨hx, hb, hml, hown, hts⟩ (c_Ways_goOn l D cI cZ tN tG H.size pr po pn kd sz ac fo fn wy re wa fr1 fw1 wc1 ((rd fw1 576 (nI j)) / 9) ((rd fw1 576 (nI j)) - (rd fw1 576 (nI j)) / 9 * 9)) (cwV 3 hts (gd4 k_179 k_181 k_2 k_20 k_182) rfl rfl rfl (by decide +kernel) ⟨Nat.le_of_ble_eq_true rfl, Nat.le_of_ble_eq_true rfl⟩) ⟨MZ_blind, va_recv (q0 := 3) (ci := 2) hE.1 hP rfl rfl, mz_pre hE hZ hS hPc hDc hFc⟩ rfl rfl hl.1 rfl (lv_room (Nat.le_of_ble_eq_true rfl)) d_Ways_follow_58 ⟨Nat.zero_le _, Nat.zero_le _⟩) hS (fun q _ h => hFc q h) hFc (fun u t H1 locs ht hvm hw hB hz1 hk1 hS => ?_)
          obtain ⟨hP1, hD1⟩ := hB
          rw [ht] at hP1
          subst hw
          obtain ⟨hP, hD⟩ := va_join (wr := []) (w1 := [(pr, .inr (1, [.int kd, .int sz, .int ac, .ref po, .ref pn])), (po, .inl (cI, 64, .inl fo)), (pn, .inl (cI, 64, .inl fn)), (wy, .inr (2, [.ref re, .ref wa, .int ((w_goOn kd sz ac fo fn ((rd fw1 576 (nI j)) / 9) ((rd fw1 576 (nI j)) - (rd fw1 576 (nI j)) / 9 * 9) (fr1, fw1, wc1)).2.2)])), (re, .inl (cI, 64, .inl ((w_goOn kd sz ac fo fn ((rd fw1 576 (nI j)) / 9) ((rd fw1 576 (nI j)) - (rd fw1 576 (nI j)) / 9 * 9) (fr1, fw1, wc1)).1))), (wa, .inl (cI, 576, .inl ((w_goOn kd sz ac fo fn ((rd fw1 576 (nI j)) / 9) ((rd fw1 576 (nI j)) - (rd fw1 576 (nI j)) / 9 * 9) (fr1, fw1, wc1)).2.1)))]) hP hD [0, 1, 2, 3, 4, 5] [] rfl rfl (by decide) (by decide) hk1 hFc hP1 hD1
          generalize H1 = H at hP hS ⊢
          have hP : va_P D classes [(pr, .inr (1, [.int kd, .int sz, .int ac, .ref po, .ref pn])), (po, .inl (cI, 64, .inl fo)), (pn, .inl (cI, 64, .inl fn)), (wy, .inr (2, [.ref re, .ref wa, .int ((w_goOn kd sz ac fo fn ((rd fw1 576 (nI j)) / 9) ((rd fw1 576 (nI j)) - (rd fw1 576 (nI j)) / 9 * 9) (fr1, fw1, wc1)).2.2)])), (re, .inl (cI, 64, .inl ((w_goOn kd sz ac fo fn ((rd fw1 576 (nI j)) / 9) ((rd fw1 576 (nI j)) - (rd fw1 576 (nI j)) / 9 * 9) (fr1, fw1, wc1)).1))), (wa, .inl (cI, 576, .inl ((w_goOn kd sz ac fo fn ((rd fw1 576 (nI j)) / 9) ((rd fw1 576 (nI j)) - (rd fw1 576 (nI j)) / 9 * 9) (fr1, fw1, wc1)).2.1)))] H := hP
          have hD : va_D A [(pr, .inr (1, [.int kd, .int sz, .int ac, .ref po, .ref pn])), (po, .inl (cI, 64, .inl fo)), (pn, .inl (cI, 64, .inl fn)), (wy, .inr (2, [.ref re, .ref wa, .int ((w_goOn kd sz ac fo fn ((rd fw1 576 (nI j)) / 9) ((rd fw1 576 (nI j)) - (rd fw1 576 (nI j)) / 9 * 9) (fr1, fw1, wc1)).2.2)])), (re, .inl (cI, 64, .inl ((w_goOn kd sz ac fo fn ((rd fw1 576 (nI j)) / 9) ((rd fw1 576 (nI j)) - (rd fw1 576 (nI j)) / 9 * 9) (fr1, fw1, wc1)).1))), (wa, .inl (cI, 576, .inl ((w_goOn kd sz ac fo fn ((rd fw1 576 (nI j)) / 9) ((rd fw1 576 (nI j)) - (rd fw1 576 (nI j)) / 9 * 9) (fr1, fw1, wc1)).2.1)))] := hD
          refine lv_iinc (v := ((nI j) + 1)) (k := 1) hx hb d_Ways_follow_61 hl rfl rfl (by decide) rfl (fun ls hl => ?_)
          have hl : lv_has ls 4 [(2, .int ((nI j) + 1)), (3, .int (rd fw1 576 (nI j))), (0, .ref wy), (1, .ref pr)] := hl
          refine lv_goto (tgt := 22) hx hb d_Ways_follow_64 (by decide) ?_
          have hl := lv_sub (l' := [(2, .int (nI j + 1)), (0, .ref wy), (1, .ref pr)]) hl [0, 2, 3] rfl
          rw [nI_1] at hl
          exact ih (j + 1) _ _ _ _ _ _ (by omega) hl (hP.sub [0, 1, 2, 3, 4, 5] rfl) (hD.sub [0, 1, 2, 3, 4, 5] (by decide) rfl) (by rw [← hT, ← nI_1]; simp only [w_loop, h2, h3, if_false]) hS
  exact key 576 0 _ _ _ H locs ls rfl (lv_sub hl [0, 1, 2] rfl) (hP.sub [0, 1, 2, 3, 4, 5] rfl) (hD.sub [0, 1, 2, 3, 4, 5] (by decide) rfl) rfl hS
def w_wrong (kd sz ac : Int32) (fo fn fr : Nat → Int32) (k : Int32) : Int32 := if p_wf kd sz ac fo fn k = 0 then 1 else if bitc (rd fr 64 k) ≤ 1 then w_wrongL kd sz ac fo fn fr k 9 0 else 1
def w_first (kd sz ac : Int32) (fo fn fr : Nat → Int32) : Nat → Int32 → Int32
  | 0, _ => -2
  | n + 1, k => if sz ≤ k then -2 else if w_wrong kd sz ac fo fn fr k = 0 then w_first kd sz ac fo fn fr n (k + 1) else k
set_option maxHeartbeats 4000000 in
set_option maxRecDepth 100000 in
theorem c_Ways_isWrong (l : Launch) (D : va_G) (cI cZ : ClassId) (tN tG : Nat) (pr po pn : Nat) (kd sz ac : Int32) (fo fn : Nat → Int32) (wy re wa : Nat) (fr fw : Nat → Int32) (wc : Int32) (k : Int32) : Met l y_Ways_isWrong w_Ways_isWrong (rmk 3) (va_Pc [.ref wy, .ref pr, .int k] (PZ D cI cZ tN tG [(pr, .inr (1, [.int kd, .int sz, .int ac, .ref po, .ref pn])), (po, .inl (cI, 64, .inl fo)), (pn, .inl (cI, 64, .inl fn)), (wy, .inr (2, [.ref re, .ref wa, .int wc])), (re, .inl (cI, 64, .inl fr)), (wa, .inl (cI, 576, .inl fw))])) (vp_Si (fun r => r = w_wrong kd sz ac fo fn fr k)) 0 0 (fun _ => False) := by
  refine Met.ofW (cc := b_Ways_isWrong) (maxL := 4) (ret := (some .boolean)) (by decide) rfl ?_
  intro p e s m args below meth c s₁ B hml hv
  obtain ⟨rfl, hP, hE, hZ⟩ := hv
  have hx := B.exec
  have hb := B.bytes
  have hr := B.returns
  have hts : ∀ w ∈ gW, w.before _ s = true := fun w h => atoms_spec (ws := w_Ways_isWrong) B.pre w (List.mem_cons_of_mem _ h)
  have hown : s.vm.findClass R_Ways = some m.cls := findClass_of_methodNamed B.named
  have hlocks := B.notSynchronized
  have hS : va_S (fun _ => False) s.heap s.heap [] := va_S.rf
  have hP : va_P D classes [(pr, .inr (1, [.int kd, .int sz, .int ac, .ref po, .ref pn])), (po, .inl (cI, 64, .inl fo)), (pn, .inl (cI, 64, .inl fn)), (wy, .inr (2, [.ref re, .ref wa, .int wc])), (re, .inl (cI, 64, .inl fr)), (wa, .inl (cI, 576, .inl fw))] s.heap := hP
  have hl := lv_entry ([.ref wy, .ref pr, .int k]) (n := 4) (Nat.le_of_ble_eq_true rfl)
  rw [lg_entry_eq]
  generalize (lg_sl ([.ref wy, .ref pr, .int k]) ++ List.replicate (4 - (lg_sl ([.ref wy, .ref pr, .int k])).length) Slot.unset).toArray = ls at hl ⊢
  have hl : lv_has ls 4 [(0, .ref wy), (1, .ref pr), (2, .int k)] := hl
  refine lv_aload_n hx hb d_Ways_isWrong_0 rfl (lv_at hl 1 rfl) ?_
  refine lv_iload_n hx hb d_Ways_isWrong_1 rfl (lv_at hl 2 rfl) ?_
  refine vp_callSi (va_Run.run (va_runV (As := [.int k]) (rest := []) ⟨hx, hb, hml, hown, hts⟩ (c_Program_isWellFormed l D cI cZ tN tG pr po pn kd sz ac fo fn k) (cwV 1 hts (gd4 k_236 k_193 k_194 k_19 k_195) rfl rfl rfl (by decide +kernel) ⟨Nat.le_of_ble_eq_true rfl, Nat.le_of_ble_eq_true rfl⟩) ⟨PZ_blind, va_recv (q0 := 0) (ci := 1) hE.1 hP rfl rfl, pz_pre hE hZ hS (hP.sub [0, 1, 2] rfl)⟩ rfl rfl hl.1 rfl (lv_room (Nat.le_of_ble_eq_true rfl)) d_Ways_isWrong_2 ⟨Nat.zero_le _, Nat.zero_le _⟩)) (fun r hq => ?_)
  subst hq
  refine lv_if_eq (tgt := 23) hx hb d_Ways_isWrong_5 (by decide) (fun h1 => ?_) (fun h1 => ?_)
  · -- (p_wf kd sz ac fo fn k) = 0
    refine lv_iconst (v := 1) hx hb d_Ways_isWrong_23 (by decide) ?_
    refine W.zret hx hb hr (by decide) (fun t ht hW => ⟨_, rfl, ?_, ht⟩) (fun q h => by cases h) d_Ways_isWrong_24
    show 1 = w_wrong kd sz ac fo fn fr k
    simp only [w_wrong, h1, if_true, if_false, eq_self, not_true_eq_false, not_false_eq_true, ne_eq]
  · -- ¬ (p_wf kd sz ac fo fn k) = 0
    refine lv_aload_n hx hb d_Ways_isWrong_8 rfl (lv_at hl 0 rfl) ?_
    refine va_get (D := D) (ci := 2) (v := .ref re) (C := R_Ways) (T := F_Ways) (N := 3) hx hb hts in_Ways hown hE.1 hP 3 rfl rfl 0 (by decide) (hts _ k_66) (fun _ h9 => h9) rfl d_Ways_isWrong_9 ?_
    refine lv_iload_n hx hb d_Ways_isWrong_12 rfl (lv_at hl 2 rfl) ?_
    refine vp_callSi (va_Run.run (va_runSN (As := [.ref re, .int k]) (rest := []) ⟨hx, hb, hml, hown, hts⟩ (c_SJ_read l re 64 fr k (by decide)) ⟨va_cnB 2 hts (gd k_177) rfl rfl rfl (hE.2 _ nm_3) (hts _ k_18) (by decide +kernel) ⟨Nat.le_of_ble_eq_true rfl, Nat.le_of_ble_eq_true rfl⟩, hts _ k_176, trivial⟩ (rp_pre hE.1 hP 4 0 rfl rfl) rfl rfl hl.1 rfl (lv_room (Nat.le_of_ble_eq_true rfl)) d_Ways_isWrong_13 ⟨Nat.zero_le _, Nat.zero_le _⟩)) (fun r hq => ?_)
    subst hq
    refine vp_callSi (va_Run.run (va_runS (As := [.int (rd fr 64 k)]) (rest := []) ⟨hx, hb, hml, hown, hts⟩ (c_Integer_bitCount l (rd fr 64 k)) (va_cwS 1 hts (gd3 k_237 k_238 k_25 k_239) rfl rfl rfl (by decide +kernel) ⟨Nat.le_of_ble_eq_true rfl, Nat.le_of_ble_eq_true rfl⟩) ⟨fun _ _ _ _ q => q, fun _ _ _ => ⟨rfl, trivial⟩⟩ rfl rfl hl.1 rfl (lv_room (Nat.le_of_ble_eq_true rfl)) d_Ways_isWrong_16 ⟨Nat.zero_le _, Nat.zero_le _⟩)) (fun r hq => ?_)
    subst hq
    refine lv_iconst (v := 1) hx hb d_Ways_isWrong_19 (by decide) ?_
    refine lv_icmp_le (tgt := 25) hx hb d_Ways_isWrong_20 (by decide) (fun h2 => ?_) (fun h2 => ?_)
    · -- (bitc (rd fr 64 k)) ≤ 1
      refine lv_iconst (v := 0) hx hb d_Ways_isWrong_25 (by decide) ?_
      refine lv_istore_n hx hb d_Ways_isWrong_26 rfl hl (by decide) rfl (fun ls hl => ?_)
      have hl : lv_has ls 4 [(3, .int 0), (0, .ref wy), (1, .ref pr), (2, .int k)] := hl
      have key : ∀ (N : Nat) (j : Nat) (ls : Array Slot), j + N = 9 → lv_has ls 4 [(3, .int (nI j)), (0, .ref wy), (1, .ref pr), (2, .int k)] → w_wrongL kd sz ac fo fn fr k N (nI j) = w_wrong kd sz ac fo fn fr k → W p l e (headSpec w_Ways_isWrong (rmk 3)).room s m ([.ref wy, .ref pr, .int k] : List Value).toArray below meth c s.heap [] 0 0 (MQ below (vp_Si (fun r => r = w_wrong kd sz ac fo fn fr k)) ([.ref wy, .ref pr, .int k] : List Value).toArray s 0 0 (fun _ => False)) (F0 m 27 ls []) := by
        intro N
        induction N with
        | zero =>
          intro j ls hjN hl hT
          refine lv_iload_n hx hb d_Ways_isWrong_27 rfl (lv_at hl 0 rfl) ?_
          refine lv_bipush (v := 9) hx hb d_Ways_isWrong_28 (by decide) ?_
          refine lv_icmp_ge (tgt := 59) hx hb d_Ways_isWrong_30 (by decide) (fun h3 => ?_) (fun h3 => ?_)
          · -- 9 ≤ (nI j)
            refine lv_iconst (v := 0) hx hb d_Ways_isWrong_59 (by decide) ?_
            refine W.zret hx hb hr (by decide) (fun t ht hW => ⟨_, rfl, ?_, ht⟩) (fun q h => by cases h) d_Ways_isWrong_60
            show 0 = w_wrong kd sz ac fo fn fr k
            (rw [← hT]; rfl)
          · -- ¬ 9 ≤ (nI j)
            exact absurd (show (9 : Int32) ≤ nI j from nI_le (a := 9) (by omega) (by omega)) h3
        | succ N ih =>
          intro j ls hjN hl hT
          refine lv_iload_n hx hb d_Ways_isWrong_27 rfl (lv_at hl 0 rfl) ?_
          refine lv_bipush (v := 9) hx hb d_Ways_isWrong_28 (by decide) ?_
          refine lv_icmp_ge (tgt := 59) hx hb d_Ways_isWrong_30 (by decide) (fun h4 => ?_) (fun h4 => ?_)
          · -- 9 ≤ (nI j)
            exact absurd (show nI 9 ≤ nI j from h4) (nI_ge (by omega) (by omega))
          · -- ¬ 9 ≤ (nI j)
            refine lv_aload_n hx hb d_Ways_isWrong_33 rfl (lv_at hl 1 rfl) ?_
            refine lv_iload_n hx hb d_Ways_isWrong_34 rfl (lv_at hl 3 rfl) ?_
            refine lv_iload_n hx hb d_Ways_isWrong_35 rfl (lv_at hl 0 rfl) ?_
            refine vp_callSi (va_Run.run (va_runV (As := [.int k, .int (nI j)]) (rest := []) ⟨hx, hb, hml, hown, hts⟩ (c_Ways_isReached l D cI cZ tN tG wy re wa fr fw wc k (nI j)) (cwV 2 hts (gd4 k_171 k_173 k_1 k_20 k_174) rfl rfl rfl (by decide +kernel) ⟨Nat.le_of_ble_eq_true rfl, Nat.le_of_ble_eq_true rfl⟩) ⟨PZ_blind, va_recv (q0 := 3) (ci := 2) hE.1 hP rfl rfl, pz_pre hE hZ hS (hP.sub [3, 4, 5] rfl)⟩ rfl rfl hl.1 rfl (lv_room (Nat.le_of_ble_eq_true rfl)) d_Ways_isWrong_36 ⟨Nat.zero_le _, Nat.zero_le _⟩)) (fun r hq => ?_)
            subst hq
            refine lv_if_eq (tgt := 53) hx hb d_Ways_isWrong_39 (by decide) (fun h5 => ?_) (fun h5 => ?_)
            · -- (w_isR fr k (nI j)) = 0
              refine lv_iinc (v := ((nI j) + 1)) (k := 0) hx hb d_Ways_isWrong_53 hl rfl rfl (by decide) rfl (fun ls hl => ?_)
              have hl : lv_has ls 4 [(3, .int ((nI j) + 1)), (0, .ref wy), (1, .ref pr), (2, .int k)] := hl
              refine lv_goto (tgt := 27) hx hb d_Ways_isWrong_56 (by decide) ?_
              rw [nI_1] at hl
              exact ih (j + 1) ls (by omega) hl (by rw [← hT, ← nI_1]; simp only [w_wrongL, h4, h5, if_true, if_false])
            · -- ¬ (w_isR fr k (nI j)) = 0
              refine lv_aload_n hx hb d_Ways_isWrong_42 rfl (lv_at hl 2 rfl) ?_
              refine lv_iload_n hx hb d_Ways_isWrong_43 rfl (lv_at hl 3 rfl) ?_
              refine lv_iload_n hx hb d_Ways_isWrong_44 rfl (lv_at hl 0 rfl) ?_
              refine vp_callSi (va_Run.run (va_runV (As := [.int k, .int (nI j)]) (rest := []) ⟨hx, hb, hml, hown, hts⟩ (c_Program_canBeDone l D cI cZ tN tG pr po pn kd sz ac fo fn k (nI j)) (cwV 2 hts (gd4 k_183 k_184 k_185 k_19 k_186) rfl rfl rfl (by decide +kernel) ⟨Nat.le_of_ble_eq_true rfl, Nat.le_of_ble_eq_true rfl⟩) ⟨PZ_blind, va_recv (q0 := 0) (ci := 1) hE.1 hP rfl rfl, pz_pre hE hZ hS (hP.sub [0, 1, 2] rfl)⟩ rfl rfl hl.1 rfl (lv_room (Nat.le_of_ble_eq_true rfl)) d_Ways_isWrong_45 ⟨Nat.zero_le _, Nat.zero_le _⟩)) (fun r hq => ?_)
              subst hq
              refine lv_if_ne (tgt := 53) hx hb d_Ways_isWrong_48 (by decide) (fun h6 => ?_) (fun h6 => ?_)
              · -- ¬ (p_cbd kd sz ac fo fn k (nI j)) = 0
                refine lv_iinc (v := ((nI j) + 1)) (k := 0) hx hb d_Ways_isWrong_53 hl rfl rfl (by decide) rfl (fun ls hl => ?_)
                have hl : lv_has ls 4 [(3, .int ((nI j) + 1)), (0, .ref wy), (1, .ref pr), (2, .int k)] := hl
                refine lv_goto (tgt := 27) hx hb d_Ways_isWrong_56 (by decide) ?_
                rw [nI_1] at hl
                exact ih (j + 1) ls (by omega) hl (by rw [← hT, ← nI_1]; simp only [w_wrongL, h4, h5, h6, if_true, if_false])
              · -- (p_cbd kd sz ac fo fn k (nI j)) = 0
                refine lv_iconst (v := 1) hx hb d_Ways_isWrong_51 (by decide) ?_
                refine W.zret hx hb hr (by decide) (fun t ht hW => ⟨_, rfl, ?_, ht⟩) (fun q h => by cases h) d_Ways_isWrong_52
                show 1 = w_wrong kd sz ac fo fn fr k
                (rw [← hT]; simp only [w_wrongL, h4, h5, h6, if_true, if_false])
      exact key 9 0 ls rfl hl (by simp only [w_wrong, h1, h2, if_true, if_false]; rfl)
    · -- ¬ (bitc (rd fr 64 k)) ≤ 1
      refine lv_iconst (v := 1) hx hb d_Ways_isWrong_23 (by decide) ?_
      refine W.zret hx hb hr (by decide) (fun t ht hW => ⟨_, rfl, ?_, ht⟩) (fun q h => by cases h) d_Ways_isWrong_24
      show 1 = w_wrong kd sz ac fo fn fr k
      simp only [w_wrong, h1, h2, if_true, if_false, eq_self, not_true_eq_false, not_false_eq_true, ne_eq]
set_option maxHeartbeats 4000000 in
set_option maxRecDepth 100000 in
theorem c_Ways_firstWrong (l : Launch) (D : va_G) (cI cZ : ClassId) (tN tG : Nat) (pr po pn : Nat) (kd ac : Int32) (n : Nat) (fo fn : Nat → Int32) (wy re wa : Nat) (fr fw : Nat → Int32) (wc : Int32) (hn : n ≤ 64) : Met l y_Ways_firstWrong w_Ways_firstWrong (rmk 4) (va_Pc [.ref wy, .ref pr] (PZ D cI cZ tN tG [(pr, .inr (1, [.int kd, .int (nI n), .int ac, .ref po, .ref pn])), (po, .inl (cI, 64, .inl fo)), (pn, .inl (cI, 64, .inl fn)), (wy, .inr (2, [.ref re, .ref wa, .int wc])), (re, .inl (cI, 64, .inl fr)), (wa, .inl (cI, 576, .inl fw))])) (vp_Si (fun r => r = w_first kd (nI n) ac fo fn fr n 0)) 0 0 (fun _ => False) := by
  refine Met.ofW (cc := b_Ways_firstWrong) (maxL := 3) (ret := (some .int)) (by decide) rfl ?_
  intro p e s m args below meth c s₁ B hml hv
  obtain ⟨rfl, hP, hE, hZ⟩ := hv
  have hx := B.exec
  have hb := B.bytes
  have hr := B.returns
  have hts : ∀ w ∈ gW, w.before _ s = true := fun w h => atoms_spec (ws := w_Ways_firstWrong) B.pre w (List.mem_cons_of_mem _ h)
  have hown : s.vm.findClass R_Ways = some m.cls := findClass_of_methodNamed B.named
  have hlocks := B.notSynchronized
  have hS : va_S (fun _ => False) s.heap s.heap [] := va_S.rf
  have hP : va_P D classes [(pr, .inr (1, [.int kd, .int (nI n), .int ac, .ref po, .ref pn])), (po, .inl (cI, 64, .inl fo)), (pn, .inl (cI, 64, .inl fn)), (wy, .inr (2, [.ref re, .ref wa, .int wc])), (re, .inl (cI, 64, .inl fr)), (wa, .inl (cI, 576, .inl fw))] s.heap := hP
  have hl := lv_entry ([.ref wy, .ref pr]) (n := 3) (Nat.le_of_ble_eq_true rfl)
  rw [lg_entry_eq]
  generalize (lg_sl ([.ref wy, .ref pr]) ++ List.replicate (3 - (lg_sl ([.ref wy, .ref pr])).length) Slot.unset).toArray = ls at hl ⊢
  have hl : lv_has ls 3 [(0, .ref wy), (1, .ref pr)] := hl
  refine lv_iconst (v := 0) hx hb d_Ways_firstWrong_0 (by decide) ?_
  refine lv_istore_n hx hb d_Ways_firstWrong_1 rfl hl (by decide) rfl (fun ls hl => ?_)
  have hl : lv_has ls 3 [(2, .int 0), (0, .ref wy), (1, .ref pr)] := hl
  have key : ∀ (N : Nat) (j : Nat) (ls : Array Slot), j + N = n → lv_has ls 3 [(2, .int (nI j)), (0, .ref wy), (1, .ref pr)] → w_first kd (nI n) ac fo fn fr N (nI j) = w_first kd (nI n) ac fo fn fr n 0 → W p l e (headSpec w_Ways_firstWrong (rmk 4)).room s m ([.ref wy, .ref pr] : List Value).toArray below meth c s.heap [] 0 0 (MQ below (vp_Si (fun r => r = w_first kd (nI n) ac fo fn fr n 0)) ([.ref wy, .ref pr] : List Value).toArray s 0 0 (fun _ => False)) (F0 m 2 ls []) := by
    intro N
    induction N with
    | zero =>
      intro j ls hjN hl hT
      refine lv_iload_n hx hb d_Ways_firstWrong_2 rfl (lv_at hl 0 rfl) ?_
      refine lv_aload_n hx hb d_Ways_firstWrong_3 rfl (lv_at hl 2 rfl) ?_
      refine va_get (D := D) (ci := 1) (v := .int (nI n)) (C := R_Program) (T := F_Program) (N := 5) hx hb hts in_Program hown hE.1 hP 0 rfl rfl 1 (by decide) (hts _ k_44) (fun _ h9 => h9) rfl d_Ways_firstWrong_4 ?_
      refine lv_icmp_ge (tgt := 27) hx hb d_Ways_firstWrong_7 (by decide) (fun h1 => ?_) (fun h1 => ?_)
      · -- (nI n) ≤ (nI j)
        refine lv_bipush (v := (-2)) hx hb d_Ways_firstWrong_27 (by decide) ?_
        refine W.iret hx hb hr (fun t ht hW => ⟨_, rfl, ?_, ht⟩) (fun q h => by cases h) d_Ways_firstWrong_29
        show (-2) = w_first kd (nI n) ac fo fn fr n 0
        (rw [← hT]; rfl)
      · -- ¬ (nI n) ≤ (nI j)
        exact absurd (nI_le (by omega) (by omega)) h1
    | succ N ih =>
      intro j ls hjN hl hT
      refine lv_iload_n hx hb d_Ways_firstWrong_2 rfl (lv_at hl 0 rfl) ?_
      refine lv_aload_n hx hb d_Ways_firstWrong_3 rfl (lv_at hl 2 rfl) ?_
      refine va_get (D := D) (ci := 1) (v := .int (nI n)) (C := R_Program) (T := F_Program) (N := 5) hx hb hts in_Program hown hE.1 hP 0 rfl rfl 1 (by decide) (hts _ k_44) (fun _ h9 => h9) rfl d_Ways_firstWrong_4 ?_
      refine lv_icmp_ge (tgt := 27) hx hb d_Ways_firstWrong_7 (by decide) (fun h2 => ?_) (fun h2 => ?_)
      · -- (nI n) ≤ (nI j)
        exact absurd h2 (nI_ge (by omega) (by omega))
      · -- ¬ (nI n) ≤ (nI j)
        refine lv_aload_n hx hb d_Ways_firstWrong_10 rfl (lv_at hl 1 rfl) ?_
        refine lv_aload_n hx hb d_Ways_firstWrong_11 rfl (lv_at hl 2 rfl) ?_
        refine lv_iload_n hx hb d_Ways_firstWrong_12 rfl (lv_at hl 0 rfl) ?_
        refine vp_callSi (va_Run.run (va_runV (As := [.ref pr, .int (nI j)]) (rest := []) ⟨hx, hb, hml, hown, hts⟩ (c_Ways_isWrong l D cI cZ tN tG pr po pn kd (nI n) ac fo fn wy re wa fr fw wc (nI j)) (cwV 2 hts (gd4 k_232 k_234 k_4 k_20 k_235) rfl rfl rfl (by decide +kernel) ⟨Nat.le_of_ble_eq_true rfl, Nat.le_of_ble_eq_true rfl⟩) ⟨PZ_blind, va_recv (q0 := 3) (ci := 2) hE.1 hP rfl rfl, pz_pre hE hZ hS (hP.sub [0, 1, 2, 3, 4, 5] rfl)⟩ rfl rfl hl.1 rfl (lv_room (Nat.le_of_ble_eq_true rfl)) d_Ways_firstWrong_13 ⟨Nat.zero_le _, Nat.zero_le _⟩)) (fun r hq => ?_)
        subst hq
        refine lv_if_eq (tgt := 21) hx hb d_Ways_firstWrong_16 (by decide) (fun h3 => ?_) (fun h3 => ?_)
        · -- (w_wrong kd (nI n) ac fo fn fr (nI j)) = 0
          refine lv_iinc (v := ((nI j) + 1)) (k := 0) hx hb d_Ways_firstWrong_21 hl rfl rfl (by decide) rfl (fun ls hl => ?_)
          have hl : lv_has ls 3 [(2, .int ((nI j) + 1)), (0, .ref wy), (1, .ref pr)] := hl
          refine lv_goto (tgt := 2) hx hb d_Ways_firstWrong_24 (by decide) ?_
          rw [nI_1] at hl
          exact ih (j + 1) ls (by omega) hl (by rw [← hT, ← nI_1]; simp only [w_first, h2, h3, if_true, if_false])
        · -- ¬ (w_wrong kd (nI n) ac fo fn fr (nI j)) = 0
          refine lv_iload_n hx hb d_Ways_firstWrong_19 rfl (lv_at hl 0 rfl) ?_
          refine W.iret hx hb hr (fun t ht hW => ⟨_, rfl, ?_, ht⟩) (fun q h => by cases h) d_Ways_firstWrong_20
          show (nI j) = w_first kd (nI n) ac fo fn fr n 0
          (rw [← hT]; simp only [w_first, h2, h3, if_true, if_false])
  exact key n 0 ls (Nat.zero_add n) hl rfl
set_option maxHeartbeats 4000000 in
set_option maxRecDepth 100000 in
theorem c_Machine_begin (l : Launch) (D : va_G) (cI cZ : ClassId) (tN tG : Nat) (hz : Nat) (mc ky vy gy ly sy : Nat) (res stp pcn : Int32) (fk fv fa fl fs : Nat → Int32) (hgt ap : Int32) (x y z : Int32) : Met l y_Machine_begin w_Machine_begin (rmk 1) (va_Pc [.ref mc, .int x, .int y, .int z] (MZ D cI cZ tN tG [(mc, .inr (3, [.int res, .int stp, .int pcn, .ref ky, .ref vy, .ref gy, .ref ly, .ref sy, .int hgt, .int ap])), (ky, .inl (cI, 20, .inl fk)), (vy, .inl (cI, 20, .inl fv)), (gy, .inl (cI, 3, .inl fa)), (ly, .inl (cI, 4, .inl fl)), (sy, .inl (cI, 8, .inl fs))] hz)) (va_Qv (fun _ : Unit => True) (fun u t => ME D (va_A [(mc, .inr (3, [.int res, .int stp, .int pcn, .ref ky, .ref vy, .ref gy, .ref ly, .ref sy, .int hgt, .int ap])), (ky, .inl (cI, 20, .inl fk)), (vy, .inl (cI, 20, .inl fv)), (gy, .inl (cI, 3, .inl fa)), (ly, .inl (cI, 4, .inl fl)), (sy, .inl (cI, 8, .inl fs))] hz) [(mc, .inr (3, [.int 0, .int 0, .int 0, .ref ky, .ref vy, .ref gy, .ref ly, .ref sy, .int 0, .int 0])), (ky, .inl (cI, 20, .inl fk)), (vy, .inl (cI, 20, .inl fv)), (gy, .inl (cI, 3, .inl (wr (wr (wr fa 3 0 x) 3 1 y) 3 2 z))), (ly, .inl (cI, 4, .inl (fun _ => 0))), (sy, .inl (cI, 8, .inl fs))] t) (va_A [(mc, .inr (3, [.int res, .int stp, .int pcn, .ref ky, .ref vy, .ref gy, .ref ly, .ref sy, .int hgt, .int ap])), (ky, .inl (cI, 20, .inl fk)), (vy, .inl (cI, 20, .inl fv)), (gy, .inl (cI, 3, .inl fa)), (ly, .inl (cI, 4, .inl fl)), (sy, .inl (cI, 8, .inl fs))] hz)) 0 0 (va_A [(mc, .inr (3, [.int res, .int stp, .int pcn, .ref ky, .ref vy, .ref gy, .ref ly, .ref sy, .int hgt, .int ap])), (ky, .inl (cI, 20, .inl fk)), (vy, .inl (cI, 20, .inl fv)), (gy, .inl (cI, 3, .inl fa)), (ly, .inl (cI, 4, .inl fl)), (sy, .inl (cI, 8, .inl fs))] hz) := by
  refine Met.ofW (cc := b_Machine_begin) (maxL := 4) (ret := none) (by decide) rfl ?_
  intro p e s m args below meth c s₁ B hml hv
  obtain ⟨rfl, hsz, hP, hE, hD0, hZ⟩ := hv
  have hx := B.exec
  have hb := B.bytes
  have hr := B.returns
  have hts : ∀ w ∈ gW, w.before _ s = true := fun w h => atoms_spec (ws := w_Machine_begin) B.pre w (List.mem_cons_of_mem _ h)
  have hown : s.vm.findClass R_Machine = some m.cls := findClass_of_methodNamed B.named
  have hlocks := B.notSynchronized
  subst hsz
  have hD := hD0.self (sz := s.heap.size)
  have hA : ∀ q : Nat, s.heap.size ≤ q → va_A [(mc, .inr (3, [.int res, .int stp, .int pcn, .ref ky, .ref vy, .ref gy, .ref ly, .ref sy, .int hgt, .int ap])), (ky, .inl (cI, 20, .inl fk)), (vy, .inl (cI, 20, .inl fv)), (gy, .inl (cI, 3, .inl fa)), (ly, .inl (cI, 4, .inl fl)), (sy, .inl (cI, 8, .inl fs))] s.heap.size q := fun q h => Or.inr h
  generalize va_A [(mc, .inr (3, [.int res, .int stp, .int pcn, .ref ky, .ref vy, .ref gy, .ref ly, .ref sy, .int hgt, .int ap])), (ky, .inl (cI, 20, .inl fk)), (vy, .inl (cI, 20, .inl fv)), (gy, .inl (cI, 3, .inl fa)), (ly, .inl (cI, 4, .inl fl)), (sy, .inl (cI, 8, .inl fs))] s.heap.size = A at hD hA hZ ⊢
  have hS : va_S A s.heap s.heap [] := va_S.rf
  have hP : va_P D classes [(mc, .inr (3, [.int res, .int stp, .int pcn, .ref ky, .ref vy, .ref gy, .ref ly, .ref sy, .int hgt, .int ap])), (ky, .inl (cI, 20, .inl fk)), (vy, .inl (cI, 20, .inl fv)), (gy, .inl (cI, 3, .inl fa)), (ly, .inl (cI, 4, .inl fl)), (sy, .inl (cI, 8, .inl fs))] s.heap := hP
  have hD : va_D A [(mc, .inr (3, [.int res, .int stp, .int pcn, .ref ky, .ref vy, .ref gy, .ref ly, .ref sy, .int hgt, .int ap])), (ky, .inl (cI, 20, .inl fk)), (vy, .inl (cI, 20, .inl fv)), (gy, .inl (cI, 3, .inl fa)), (ly, .inl (cI, 4, .inl fl)), (sy, .inl (cI, 8, .inl fs))] := hD
  have hl := lv_entry ([.ref mc, .int x, .int y, .int z]) (n := 4) (Nat.le_of_ble_eq_true rfl)
  rw [lg_entry_eq]
  generalize (lg_sl ([.ref mc, .int x, .int y, .int z]) ++ List.replicate (4 - (lg_sl ([.ref mc, .int x, .int y, .int z])).length) Slot.unset).toArray = ls at hl ⊢
  have hl : lv_has ls 4 [(0, .ref mc), (1, .int x), (2, .int y), (3, .int z)] := hl
  refine lv_aload_n hx hb d_Machine_begin_0 rfl (lv_at hl 0 rfl) ?_
  refine va_get (D := D) (ci := 3) (v := .ref gy) (C := R_Machine) (T := F_Machine) (N := 10) hx hb hts in_Machine hown hE.1 hP 0 rfl rfl 5 (by decide) (hts _ k_93) (fun _ h9 => h9) rfl d_Machine_begin_1 ?_
  refine lv_iconst (v := 0) hx hb d_Machine_begin_4 (by decide) ?_
  refine lv_iload_n hx hb d_Machine_begin_5 rfl (lv_at hl 1 rfl) ?_
  have hPc := hP.sub (ws' := [(gy, .inl (cI, 3, .inl fa))]) [3] rfl
  have hDc := hD.sub (ws' := [(gy, .inl (cI, 3, .inl fa))]) [3] (by decide) rfl
  have hFc := va_free (wc := [(gy, .inl (cI, 3, .inl fa))]) hD hS hA [3] rfl
  refine va_callv (va_runSN (As := [.ref gy, .int 0, .int x]) (rest := []) ⟨hx, hb, hml, hown, hts⟩ (c_SJ_write l D cI cZ tN tG s.heap.size gy 3 fa 0 x (by decide)) ⟨va_cnB 3 hts (gd k_139) rfl rfl rfl (hE.2 _ nm_7) (hts _ k_18) (by decide +kernel) ⟨Nat.le_of_ble_eq_true rfl, Nat.le_of_ble_eq_true rfl⟩, hts _ k_138, trivial⟩ ⟨MZ_blind, mz_pre hE hZ hS hPc hDc hFc⟩ rfl rfl hl.1 rfl (lv_room (Nat.le_of_ble_eq_true rfl)) d_Machine_begin_6 ⟨Nat.zero_le _, Nat.zero_le _⟩) hS (fun q _ h => hFc q h) hFc (fun u t H1 locs ht hvm hw hB hz1 hk1 hS => ?_)
  obtain ⟨hP1, hD1⟩ := hB
  rw [ht] at hP1
  subst hw
  obtain ⟨hP, hD⟩ := va_join (wr := [(mc, .inr (3, [.int res, .int stp, .int pcn, .ref ky, .ref vy, .ref gy, .ref ly, .ref sy, .int hgt, .int ap])), (ky, .inl (cI, 20, .inl fk)), (vy, .inl (cI, 20, .inl fv)), (ly, .inl (cI, 4, .inl fl)), (sy, .inl (cI, 8, .inl fs))]) (w1 := [(gy, .inl (cI, 3, .inl (wr fa 3 0 x)))]) hP hD [3] [0, 1, 2, 4, 5] rfl rfl (by decide) (by decide) hk1 hFc hP1 hD1
  generalize H1 = H at hP hS ⊢
  have hP : va_P D classes [(mc, .inr (3, [.int res, .int stp, .int pcn, .ref ky, .ref vy, .ref gy, .ref ly, .ref sy, .int hgt, .int ap])), (ky, .inl (cI, 20, .inl fk)), (vy, .inl (cI, 20, .inl fv)), (ly, .inl (cI, 4, .inl fl)), (sy, .inl (cI, 8, .inl fs)), (gy, .inl (cI, 3, .inl (wr fa 3 0 x)))] H := hP
  have hD : va_D A [(mc, .inr (3, [.int res, .int stp, .int pcn, .ref ky, .ref vy, .ref gy, .ref ly, .ref sy, .int hgt, .int ap])), (ky, .inl (cI, 20, .inl fk)), (vy, .inl (cI, 20, .inl fv)), (ly, .inl (cI, 4, .inl fl)), (sy, .inl (cI, 8, .inl fs)), (gy, .inl (cI, 3, .inl (wr fa 3 0 x)))] := hD
  refine lv_aload_n hx hb d_Machine_begin_9 rfl (lv_at hl 0 rfl) ?_
  refine va_get (D := D) (ci := 3) (v := .ref gy) (C := R_Machine) (T := F_Machine) (N := 10) hx hb hts in_Machine hown hE.1 hP 0 rfl rfl 5 (by decide) (hts _ k_93) (fun _ h9 => h9) rfl d_Machine_begin_10 ?_
  refine lv_iconst (v := 1) hx hb d_Machine_begin_13 (by decide) ?_
  refine lv_iload_n hx hb d_Machine_begin_14 rfl (lv_at hl 2 rfl) ?_
  have hPc := hP.sub (ws' := [(gy, .inl (cI, 3, .inl (wr fa 3 0 x)))]) [5] rfl
  have hDc := hD.sub (ws' := [(gy, .inl (cI, 3, .inl (wr fa 3 0 x)))]) [5] (by decide) rfl
  have hFc := va_free (wc := [(gy, .inl (cI, 3, .inl (wr fa 3 0 x)))]) hD hS hA [5] rfl
  refine va_callv (va_runSN (As := [.ref gy, .int 1, .int y]) (rest := []) ⟨hx, hb, hml, hown, hts⟩ (c_SJ_write l D cI cZ tN tG H.size gy 3 (wr fa 3 0 x) 1 y (by decide)) ⟨va_cnB 3 hts (gd k_139) rfl rfl rfl (hE.2 _ nm_7) (hts _ k_18) (by decide +kernel) ⟨Nat.le_of_ble_eq_true rfl, Nat.le_of_ble_eq_true rfl⟩, hts _ k_138, trivial⟩ ⟨MZ_blind, mz_pre hE hZ hS hPc hDc hFc⟩ rfl rfl hl.1 rfl (lv_room (Nat.le_of_ble_eq_true rfl)) d_Machine_begin_15 ⟨Nat.zero_le _, Nat.zero_le _⟩) hS (fun q _ h => hFc q h) hFc (fun u t H1 locs ht hvm hw hB hz1 hk1 hS => ?_)
  obtain ⟨hP1, hD1⟩ := hB
  rw [ht] at hP1
  subst hw
  obtain ⟨hP, hD⟩ := va_join (wr := [(mc, .inr (3, [.int res, .int stp, .int pcn, .ref ky, .ref vy, .ref gy, .ref ly, .ref sy, .int hgt, .int ap])), (ky, .inl (cI, 20, .inl fk)), (vy, .inl (cI, 20, .inl fv)), (ly, .inl (cI, 4, .inl fl)), (sy, .inl (cI, 8, .inl fs))]) (w1 := [(gy, .inl (cI, 3, .inl (wr (wr fa 3 0 x) 3 1 y)))]) hP hD [5] [0, 1, 2, 3, 4] rfl rfl (by decide) (by decide) hk1 hFc hP1 hD1
  generalize H1 = H at hP hS ⊢
  have hP : va_P D classes [(mc, .inr (3, [.int res, .int stp, .int pcn, .ref ky, .ref vy, .ref gy, .ref ly, .ref sy, .int hgt, .int ap])), (ky, .inl (cI, 20, .inl fk)), (vy, .inl (cI, 20, .inl fv)), (ly, .inl (cI, 4, .inl fl)), (sy, .inl (cI, 8, .inl fs)), (gy, .inl (cI, 3, .inl (wr (wr fa 3 0 x) 3 1 y)))] H := hP
  have hD : va_D A [(mc, .inr (3, [.int res, .int stp, .int pcn, .ref ky, .ref vy, .ref gy, .ref ly, .ref sy, .int hgt, .int ap])), (ky, .inl (cI, 20, .inl fk)), (vy, .inl (cI, 20, .inl fv)), (ly, .inl (cI, 4, .inl fl)), (sy, .inl (cI, 8, .inl fs)), (gy, .inl (cI, 3, .inl (wr (wr fa 3 0 x) 3 1 y)))] := hD
  refine lv_aload_n hx hb d_Machine_begin_18 rfl (lv_at hl 0 rfl) ?_
  refine va_get (D := D) (ci := 3) (v := .ref gy) (C := R_Machine) (T := F_Machine) (N := 10) hx hb hts in_Machine hown hE.1 hP 0 rfl rfl 5 (by decide) (hts _ k_93) (fun _ h9 => h9) rfl d_Machine_begin_19 ?_
  refine lv_iconst (v := 2) hx hb d_Machine_begin_22 (by decide) ?_
  refine lv_iload_n hx hb d_Machine_begin_23 rfl (lv_at hl 3 rfl) ?_
  have hPc := hP.sub (ws' := [(gy, .inl (cI, 3, .inl (wr (wr fa 3 0 x) 3 1 y)))]) [5] rfl
  have hDc := hD.sub (ws' := [(gy, .inl (cI, 3, .inl (wr (wr fa 3 0 x) 3 1 y)))]) [5] (by decide) rfl
  have hFc := va_free (wc := [(gy, .inl (cI, 3, .inl (wr (wr fa 3 0 x) 3 1 y)))]) hD hS hA [5] rfl
  refine va_callv (va_runSN (As := [.ref gy, .int 2, .int z]) (rest := []) ⟨hx, hb, hml, hown, hts⟩ (c_SJ_write l D cI cZ tN tG H.size gy 3 (wr (wr fa 3 0 x) 3 1 y) 2 z (by decide)) ⟨va_cnB 3 hts (gd k_139) rfl rfl rfl (hE.2 _ nm_7) (hts _ k_18) (by decide +kernel) ⟨Nat.le_of_ble_eq_true rfl, Nat.le_of_ble_eq_true rfl⟩, hts _ k_138, trivial⟩ ⟨MZ_blind, mz_pre hE hZ hS hPc hDc hFc⟩ rfl rfl hl.1 rfl (lv_room (Nat.le_of_ble_eq_true rfl)) d_Machine_begin_24 ⟨Nat.zero_le _, Nat.zero_le _⟩) hS (fun q _ h => hFc q h) hFc (fun u t H1 locs ht hvm hw hB hz1 hk1 hS => ?_)
  obtain ⟨hP1, hD1⟩ := hB
  rw [ht] at hP1
  subst hw
  obtain ⟨hP, hD⟩ := va_join (wr := [(mc, .inr (3, [.int res, .int stp, .int pcn, .ref ky, .ref vy, .ref gy, .ref ly, .ref sy, .int hgt, .int ap])), (ky, .inl (cI, 20, .inl fk)), (vy, .inl (cI, 20, .inl fv)), (ly, .inl (cI, 4, .inl fl)), (sy, .inl (cI, 8, .inl fs))]) (w1 := [(gy, .inl (cI, 3, .inl (wr (wr (wr fa 3 0 x) 3 1 y) 3 2 z)))]) hP hD [5] [0, 1, 2, 3, 4] rfl rfl (by decide) (by decide) hk1 hFc hP1 hD1
  generalize H1 = H at hP hS ⊢
  have hP : va_P D classes [(mc, .inr (3, [.int res, .int stp, .int pcn, .ref ky, .ref vy, .ref gy, .ref ly, .ref sy, .int hgt, .int ap])), (ky, .inl (cI, 20, .inl fk)), (vy, .inl (cI, 20, .inl fv)), (ly, .inl (cI, 4, .inl fl)), (sy, .inl (cI, 8, .inl fs)), (gy, .inl (cI, 3, .inl (wr (wr (wr fa 3 0 x) 3 1 y) 3 2 z)))] H := hP
  have hD : va_D A [(mc, .inr (3, [.int res, .int stp, .int pcn, .ref ky, .ref vy, .ref gy, .ref ly, .ref sy, .int hgt, .int ap])), (ky, .inl (cI, 20, .inl fk)), (vy, .inl (cI, 20, .inl fv)), (ly, .inl (cI, 4, .inl fl)), (sy, .inl (cI, 8, .inl fs)), (gy, .inl (cI, 3, .inl (wr (wr (wr fa 3 0 x) 3 1 y) 3 2 z)))] := hD
  refine lv_aload_n hx hb d_Machine_begin_27 rfl (lv_at hl 0 rfl) ?_
  refine va_get (D := D) (ci := 3) (v := .ref ly) (C := R_Machine) (T := F_Machine) (N := 10) hx hb hts in_Machine hown hE.1 hP 0 rfl rfl 6 (by decide) (hts _ k_94) (fun _ h9 => h9) rfl d_Machine_begin_28 ?_
  refine lv_iconst (v := 0) hx hb d_Machine_begin_31 (by decide) ?_
  have hPc := hP.sub (ws' := [(ly, .inl (cI, 4, .inl fl))]) [3] rfl
  have hDc := hD.sub (ws' := [(ly, .inl (cI, 4, .inl fl))]) [3] (by decide) rfl
  have hFc := va_free (wc := [(ly, .inl (cI, 4, .inl fl))]) hD hS hA [3] rfl
  refine va_callv (va_runS (As := [.ref ly, .int 0]) (rest := []) ⟨hx, hb, hml, hown, hts⟩ (c_Arrays_fill l D cI cZ tN tG H.size ly 4 fl 0 (by decide)) (va_cwS 2 hts (gd3 k_263 k_161 k_23 k_162) rfl rfl rfl (by decide +kernel) ⟨Nat.le_of_ble_eq_true rfl, Nat.le_of_ble_eq_true rfl⟩) ⟨MZ_blind, mz_pre hE hZ hS hPc hDc hFc⟩ rfl rfl hl.1 rfl (lv_room (Nat.le_of_ble_eq_true rfl)) d_Machine_begin_32 ⟨Nat.zero_le _, Nat.zero_le _⟩) hS (fun q _ h => hFc q h) hFc (fun u t H1 locs ht hvm hw hB hz1 hk1 hS => ?_)
  obtain ⟨hP1, hD1⟩ := hB
  rw [ht] at hP1
  obtain ⟨hP, hD⟩ := va_join (wr := [(mc, .inr (3, [.int res, .int stp, .int pcn, .ref ky, .ref vy, .ref gy, .ref ly, .ref sy, .int hgt, .int ap])), (ky, .inl (cI, 20, .inl fk)), (vy, .inl (cI, 20, .inl fv)), (sy, .inl (cI, 8, .inl fs)), (gy, .inl (cI, 3, .inl (wr (wr (wr fa 3 0 x) 3 1 y) 3 2 z)))]) (w1 := [(ly, .inl (cI, 4, .inl (fun _ => 0)))]) hP hD [3] [0, 1, 2, 4, 5] rfl rfl (by decide) (by decide) hk1 hFc hP1 hD1
  generalize H1 = H at hP hS ⊢
  have hP : va_P D classes [(mc, .inr (3, [.int res, .int stp, .int pcn, .ref ky, .ref vy, .ref gy, .ref ly, .ref sy, .int hgt, .int ap])), (ky, .inl (cI, 20, .inl fk)), (vy, .inl (cI, 20, .inl fv)), (sy, .inl (cI, 8, .inl fs)), (gy, .inl (cI, 3, .inl (wr (wr (wr fa 3 0 x) 3 1 y) 3 2 z))), (ly, .inl (cI, 4, .inl (fun _ => 0)))] H := hP
  have hD : va_D A [(mc, .inr (3, [.int res, .int stp, .int pcn, .ref ky, .ref vy, .ref gy, .ref ly, .ref sy, .int hgt, .int ap])), (ky, .inl (cI, 20, .inl fk)), (vy, .inl (cI, 20, .inl fv)), (sy, .inl (cI, 8, .inl fs)), (gy, .inl (cI, 3, .inl (wr (wr (wr fa 3 0 x) 3 1 y) 3 2 z))), (ly, .inl (cI, 4, .inl (fun _ => 0)))] := hD
  refine lv_aload_n hx hb d_Machine_begin_35 rfl (lv_at hl 0 rfl) ?_
  refine lv_iconst (v := 0) hx hb d_Machine_begin_36 (by decide) ?_
  refine va_put (D := D) (ci := 3) (v := .int 0) (ty := .int) (C := R_Machine) (T := F_Machine) (N := 10) hx hb hts in_Machine t_Machine t_Machine_ok n_Machine hown hE.1 hP hD hS 0 rfl rfl 8 (by decide) (hts _ k_96) (fun _ h9 => h9) rfl (by decide +kernel) rfl rfl (Nat.le_of_ble_eq_true rfl) d_Machine_begin_37 (fun H locs hP hD hS => ?_)
  have hP : va_P D classes [(mc, .inr (3, [.int res, .int stp, .int pcn, .ref ky, .ref vy, .ref gy, .ref ly, .ref sy, .int 0, .int ap])), (ky, .inl (cI, 20, .inl fk)), (vy, .inl (cI, 20, .inl fv)), (sy, .inl (cI, 8, .inl fs)), (gy, .inl (cI, 3, .inl (wr (wr (wr fa 3 0 x) 3 1 y) 3 2 z))), (ly, .inl (cI, 4, .inl (fun _ => 0)))] H := hP
  have hD : va_D A [(mc, .inr (3, [.int res, .int stp, .int pcn, .ref ky, .ref vy, .ref gy, .ref ly, .ref sy, .int 0, .int ap])), (ky, .inl (cI, 20, .inl fk)), (vy, .inl (cI, 20, .inl fv)), (sy, .inl (cI, 8, .inl fs)), (gy, .inl (cI, 3, .inl (wr (wr (wr fa 3 0 x) 3 1 y) 3 2 z))), (ly, .inl (cI, 4, .inl (fun _ => 0)))] := hD
  refine lv_aload_n hx hb d_Machine_begin_40 rfl (lv_at hl 0 rfl) ?_
  refine lv_iconst (v := 0) hx hb d_Machine_begin_41 (by decide) ?_
  refine va_put (D := D) (ci := 3) (v := .int 0) (ty := .int) (C := R_Machine) (T := F_Machine) (N := 10) hx hb hts in_Machine t_Machine t_Machine_ok n_Machine hown hE.1 hP hD hS 0 rfl rfl 9 (by decide) (hts _ k_97) (fun _ h9 => h9) rfl (by decide +kernel) rfl rfl (Nat.le_of_ble_eq_true rfl) d_Machine_begin_42 (fun H locs hP hD hS => ?_)
  have hP : va_P D classes [(mc, .inr (3, [.int res, .int stp, .int pcn, .ref ky, .ref vy, .ref gy, .ref ly, .ref sy, .int 0, .int 0])), (ky, .inl (cI, 20, .inl fk)), (vy, .inl (cI, 20, .inl fv)), (sy, .inl (cI, 8, .inl fs)), (gy, .inl (cI, 3, .inl (wr (wr (wr fa 3 0 x) 3 1 y) 3 2 z))), (ly, .inl (cI, 4, .inl (fun _ => 0)))] H := hP
  have hD : va_D A [(mc, .inr (3, [.int res, .int stp, .int pcn, .ref ky, .ref vy, .ref gy, .ref ly, .ref sy, .int 0, .int 0])), (ky, .inl (cI, 20, .inl fk)), (vy, .inl (cI, 20, .inl fv)), (sy, .inl (cI, 8, .inl fs)), (gy, .inl (cI, 3, .inl (wr (wr (wr fa 3 0 x) 3 1 y) 3 2 z))), (ly, .inl (cI, 4, .inl (fun _ => 0)))] := hD
  refine lv_aload_n hx hb d_Machine_begin_45 rfl (lv_at hl 0 rfl) ?_
  refine lv_iconst (v := 0) hx hb d_Machine_begin_46 (by decide) ?_
  refine va_put (D := D) (ci := 3) (v := .int 0) (ty := .int) (C := R_Machine) (T := F_Machine) (N := 10) hx hb hts in_Machine t_Machine t_Machine_ok n_Machine hown hE.1 hP hD hS 0 rfl rfl 0 (by decide) (hts _ k_83) (fun _ h9 => h9) rfl (by decide +kernel) rfl rfl (Nat.le_of_ble_eq_true rfl) d_Machine_begin_47 (fun H locs hP hD hS => ?_)
  have hP : va_P D classes [(mc, .inr (3, [.int 0, .int stp, .int pcn, .ref ky, .ref vy, .ref gy, .ref ly, .ref sy, .int 0, .int 0])), (ky, .inl (cI, 20, .inl fk)), (vy, .inl (cI, 20, .inl fv)), (sy, .inl (cI, 8, .inl fs)), (gy, .inl (cI, 3, .inl (wr (wr (wr fa 3 0 x) 3 1 y) 3 2 z))), (ly, .inl (cI, 4, .inl (fun _ => 0)))] H := hP
  have hD : va_D A [(mc, .inr (3, [.int 0, .int stp, .int pcn, .ref ky, .ref vy, .ref gy, .ref ly, .ref sy, .int 0, .int 0])), (ky, .inl (cI, 20, .inl fk)), (vy, .inl (cI, 20, .inl fv)), (sy, .inl (cI, 8, .inl fs)), (gy, .inl (cI, 3, .inl (wr (wr (wr fa 3 0 x) 3 1 y) 3 2 z))), (ly, .inl (cI, 4, .inl (fun _ => 0)))] := hD
  refine lv_aload_n hx hb d_Machine_begin_50 rfl (lv_at hl 0 rfl) ?_
  refine lv_iconst (v := 0) hx hb d_Machine_begin_51 (by decide) ?_
  refine va_put (D := D) (ci := 3) (v := .int 0) (ty := .int) (C := R_Machine) (T := F_Machine) (N := 10) hx hb hts in_Machine t_Machine t_Machine_ok n_Machine hown hE.1 hP hD hS 0 rfl rfl 1 (by decide) (hts _ k_85) (fun _ h9 => h9) rfl (by decide +kernel) rfl rfl (Nat.le_of_ble_eq_true rfl) d_Machine_begin_52 (fun H locs hP hD hS => ?_)
  have hP : va_P D classes [(mc, .inr (3, [.int 0, .int 0, .int pcn, .ref ky, .ref vy, .ref gy, .ref ly, .ref sy, .int 0, .int 0])), (ky, .inl (cI, 20, .inl fk)), (vy, .inl (cI, 20, .inl fv)), (sy, .inl (cI, 8, .inl fs)), (gy, .inl (cI, 3, .inl (wr (wr (wr fa 3 0 x) 3 1 y) 3 2 z))), (ly, .inl (cI, 4, .inl (fun _ => 0)))] H := hP
  have hD : va_D A [(mc, .inr (3, [.int 0, .int 0, .int pcn, .ref ky, .ref vy, .ref gy, .ref ly, .ref sy, .int 0, .int 0])), (ky, .inl (cI, 20, .inl fk)), (vy, .inl (cI, 20, .inl fv)), (sy, .inl (cI, 8, .inl fs)), (gy, .inl (cI, 3, .inl (wr (wr (wr fa 3 0 x) 3 1 y) 3 2 z))), (ly, .inl (cI, 4, .inl (fun _ => 0)))] := hD
  refine lv_aload_n hx hb d_Machine_begin_55 rfl (lv_at hl 0 rfl) ?_
  refine lv_iconst (v := 0) hx hb d_Machine_begin_56 (by decide) ?_
  refine va_put (D := D) (ci := 3) (v := .int 0) (ty := .int) (C := R_Machine) (T := F_Machine) (N := 10) hx hb hts in_Machine t_Machine t_Machine_ok n_Machine hown hE.1 hP hD hS 0 rfl rfl 2 (by decide) (hts _ k_87) (fun _ h9 => h9) rfl (by decide +kernel) rfl rfl (Nat.le_of_ble_eq_true rfl) d_Machine_begin_57 (fun H locs hP hD hS => ?_)
  have hP : va_P D classes [(mc, .inr (3, [.int 0, .int 0, .int 0, .ref ky, .ref vy, .ref gy, .ref ly, .ref sy, .int 0, .int 0])), (ky, .inl (cI, 20, .inl fk)), (vy, .inl (cI, 20, .inl fv)), (sy, .inl (cI, 8, .inl fs)), (gy, .inl (cI, 3, .inl (wr (wr (wr fa 3 0 x) 3 1 y) 3 2 z))), (ly, .inl (cI, 4, .inl (fun _ => 0)))] H := hP
  have hD : va_D A [(mc, .inr (3, [.int 0, .int 0, .int 0, .ref ky, .ref vy, .ref gy, .ref ly, .ref sy, .int 0, .int 0])), (ky, .inl (cI, 20, .inl fk)), (vy, .inl (cI, 20, .inl fv)), (sy, .inl (cI, 8, .inl fs)), (gy, .inl (cI, 3, .inl (wr (wr (wr fa 3 0 x) 3 1 y) 3 2 z))), (ly, .inl (cI, 4, .inl (fun _ => 0)))] := hD
  refine W.vret hx hb hr (fun t ht hW => ⟨⟨(), rfl, ?_, ?_⟩, hS.F ht⟩) hS.2.2 d_Machine_begin_60
  · trivial
  · exact ⟨by rw [ht]; exact hP.sub [0, 1, 2, 4, 5, 3] rfl, hD.sub [0, 1, 2, 4, 5, 3] (by decide) rfl⟩
set_option maxHeartbeats 4000000 in
set_option maxRecDepth 100000 in
theorem c_Machine_run (l : Launch) (D : va_G) (cI cZ : ClassId) (tN tG : Nat) (hz : Nat) (pr po pn : Nat) (kd sz ac : Int32) (fo fn : Nat → Int32) (mc ky vy gy ly sy : Nat) (res stp pcn : Int32) (fk fv fa fl fs : Nat → Int32) (hgt ap : Int32) (x y z : Int32) : Met l y_Machine_run w_Machine_run (rmk 4) (va_Pc [.ref mc, .ref pr, .int x, .int y, .int z] (MZ D cI cZ tN tG [(pr, .inr (1, [.int kd, .int sz, .int ac, .ref po, .ref pn])), (po, .inl (cI, 64, .inl fo)), (pn, .inl (cI, 64, .inl fn)), (mc, .inr (3, [.int res, .int stp, .int pcn, .ref ky, .ref vy, .ref gy, .ref ly, .ref sy, .int hgt, .int ap])), (ky, .inl (cI, 20, .inl fk)), (vy, .inl (cI, 20, .inl fv)), (gy, .inl (cI, 3, .inl fa)), (ly, .inl (cI, 4, .inl fl)), (sy, .inl (cI, 8, .inl fs))] hz)) (va_Qi (fun (r : Int32) (u : MS) => (r, u) = m_run kd fo fn x y z (res, stp, pcn, fk, fv, fa, fl, fs, hgt, ap)) (fun u t => ME D (va_A [(pr, .inr (1, [.int kd, .int sz, .int ac, .ref po, .ref pn])), (po, .inl (cI, 64, .inl fo)), (pn, .inl (cI, 64, .inl fn)), (mc, .inr (3, [.int res, .int stp, .int pcn, .ref ky, .ref vy, .ref gy, .ref ly, .ref sy, .int hgt, .int ap])), (ky, .inl (cI, 20, .inl fk)), (vy, .inl (cI, 20, .inl fv)), (gy, .inl (cI, 3, .inl fa)), (ly, .inl (cI, 4, .inl fl)), (sy, .inl (cI, 8, .inl fs))] hz) [(pr, .inr (1, [.int kd, .int sz, .int ac, .ref po, .ref pn])), (po, .inl (cI, 64, .inl fo)), (pn, .inl (cI, 64, .inl fn)), (mc, .inr (3, [.int u.1, .int u.2.1, .int u.2.2.1, .ref ky, .ref vy, .ref gy, .ref ly, .ref sy, .int u.2.2.2.2.2.2.2.2.1, .int u.2.2.2.2.2.2.2.2.2])), (ky, .inl (cI, 20, .inl u.2.2.2.1)), (vy, .inl (cI, 20, .inl u.2.2.2.2.1)), (gy, .inl (cI, 3, .inl u.2.2.2.2.2.1)), (ly, .inl (cI, 4, .inl u.2.2.2.2.2.2.1)), (sy, .inl (cI, 8, .inl u.2.2.2.2.2.2.2.1))] t) (va_A [(pr, .inr (1, [.int kd, .int sz, .int ac, .ref po, .ref pn])), (po, .inl (cI, 64, .inl fo)), (pn, .inl (cI, 64, .inl fn)), (mc, .inr (3, [.int res, .int stp, .int pcn, .ref ky, .ref vy, .ref gy, .ref ly, .ref sy, .int hgt, .int ap])), (ky, .inl (cI, 20, .inl fk)), (vy, .inl (cI, 20, .inl fv)), (gy, .inl (cI, 3, .inl fa)), (ly, .inl (cI, 4, .inl fl)), (sy, .inl (cI, 8, .inl fs))] hz)) 0 0 (va_A [(pr, .inr (1, [.int kd, .int sz, .int ac, .ref po, .ref pn])), (po, .inl (cI, 64, .inl fo)), (pn, .inl (cI, 64, .inl fn)), (mc, .inr (3, [.int res, .int stp, .int pcn, .ref ky, .ref vy, .ref gy, .ref ly, .ref sy, .int hgt, .int ap])), (ky, .inl (cI, 20, .inl fk)), (vy, .inl (cI, 20, .inl fv)), (gy, .inl (cI, 3, .inl fa)), (ly, .inl (cI, 4, .inl fl)), (sy, .inl (cI, 8, .inl fs))] hz) := by
  refine Met.ofW (cc := b_Machine_run) (maxL := 7) (ret := (some .int)) (by decide) rfl ?_
  intro p e s m args below meth c s₁ B hml hv
  obtain ⟨rfl, hsz, hP, hE, hD0, hZ⟩ := hv
  have hx := B.exec
  have hb := B.bytes
  have hr := B.returns
  have hts : ∀ w ∈ gW, w.before _ s = true := fun w h => atoms_spec (ws := w_Machine_run) B.pre w (List.mem_cons_of_mem _ h)
  have hown : s.vm.findClass R_Machine = some m.cls := findClass_of_methodNamed B.named
  have hlocks := B.notSynchronized
  subst hsz
  have hD := hD0.self (sz := s.heap.size)
  have hA : ∀ q : Nat, s.heap.size ≤ q → va_A [(pr, .inr (1, [.int kd, .int sz, .int ac, .ref po, .ref pn])), (po, .inl (cI, 64, .inl fo)), (pn, .inl (cI, 64, .inl fn)), (mc, .inr (3, [.int res, .int stp, .int pcn, .ref ky, .ref vy, .ref gy, .ref ly, .ref sy, .int hgt, .int ap])), (ky, .inl (cI, 20, .inl fk)), (vy, .inl (cI, 20, .inl fv)), (gy, .inl (cI, 3, .inl fa)), (ly, .inl (cI, 4, .inl fl)), (sy, .inl (cI, 8, .inl fs))] s.heap.size q := fun q h => Or.inr h
  generalize va_A [(pr, .inr (1, [.int kd, .int sz, .int ac, .ref po, .ref pn])), (po, .inl (cI, 64, .inl fo)), (pn, .inl (cI, 64, .inl fn)), (mc, .inr (3, [.int res, .int stp, .int pcn, .ref ky, .ref vy, .ref gy, .ref ly, .ref sy, .int hgt, .int ap])), (ky, .inl (cI, 20, .inl fk)), (vy, .inl (cI, 20, .inl fv)), (gy, .inl (cI, 3, .inl fa)), (ly, .inl (cI, 4, .inl fl)), (sy, .inl (cI, 8, .inl fs))] s.heap.size = A at hD hA hZ ⊢
  have hS : va_S A s.heap s.heap [] := va_S.rf
  have hP : va_P D classes [(pr, .inr (1, [.int kd, .int sz, .int ac, .ref po, .ref pn])), (po, .inl (cI, 64, .inl fo)), (pn, .inl (cI, 64, .inl fn)), (mc, .inr (3, [.int res, .int stp, .int pcn, .ref ky, .ref vy, .ref gy, .ref ly, .ref sy, .int hgt, .int ap])), (ky, .inl (cI, 20, .inl fk)), (vy, .inl (cI, 20, .inl fv)), (gy, .inl (cI, 3, .inl fa)), (ly, .inl (cI, 4, .inl fl)), (sy, .inl (cI, 8, .inl fs))] s.heap := hP
  have hD : va_D A [(pr, .inr (1, [.int kd, .int sz, .int ac, .ref po, .ref pn])), (po, .inl (cI, 64, .inl fo)), (pn, .inl (cI, 64, .inl fn)), (mc, .inr (3, [.int res, .int stp, .int pcn, .ref ky, .ref vy, .ref gy, .ref ly, .ref sy, .int hgt, .int ap])), (ky, .inl (cI, 20, .inl fk)), (vy, .inl (cI, 20, .inl fv)), (gy, .inl (cI, 3, .inl fa)), (ly, .inl (cI, 4, .inl fl)), (sy, .inl (cI, 8, .inl fs))] := hD
  have hl := lv_entry ([.ref mc, .ref pr, .int x, .int y, .int z]) (n := 7) (Nat.le_of_ble_eq_true rfl)
  rw [lg_entry_eq]
  generalize (lg_sl ([.ref mc, .ref pr, .int x, .int y, .int z]) ++ List.replicate (7 - (lg_sl ([.ref mc, .ref pr, .int x, .int y, .int z])).length) Slot.unset).toArray = ls at hl ⊢
  have hl : lv_has ls 7 [(0, .ref mc), (1, .ref pr), (2, .int x), (3, .int y), (4, .int z)] := hl
  refine lv_aload_n hx hb d_Machine_run_0 rfl (lv_at hl 0 rfl) ?_
  refine lv_iload_n hx hb d_Machine_run_1 rfl (lv_at hl 2 rfl) ?_
  refine lv_iload_n hx hb d_Machine_run_2 rfl (lv_at hl 3 rfl) ?_
  refine lv_iload hx hb d_Machine_run_3 (lv_at hl 4 rfl) ?_
  have hPc := hP.sub (ws' := [(mc, .inr (3, [.int res, .int stp, .int pcn, .ref ky, .ref vy, .ref gy, .ref ly, .ref sy, .int hgt, .int ap])), (ky, .inl (cI, 20, .inl fk)), (vy, .inl (cI, 20, .inl fv)), (gy, .inl (cI, 3, .inl fa)), (ly, .inl (cI, 4, .inl fl)), (sy, .inl (cI, 8, .inl fs))]) [3, 4, 5, 6, 7, 8] rfl
  have hDc := hD.sub (ws' := [(mc, .inr (3, [.int res, .int stp, .int pcn, .ref ky, .ref vy, .ref gy, .ref ly, .ref sy, .int hgt, .int ap])), (ky, .inl (cI, 20, .inl fk)), (vy, .inl (cI, 20, .inl fv)), (gy, .inl (cI, 3, .inl fa)), (ly, .inl (cI, 4, .inl fl)), (sy, .inl (cI, 8, .inl fs))]) [3, 4, 5, 6, 7, 8] (by decide) rfl
  have hFc := va_free (wc := [(mc, .inr (3, [.int res, .int stp, .int pcn, .ref ky, .ref vy, .ref gy, .ref ly, .ref sy, .int hgt, .int ap])), (ky, .inl (cI, 20, .inl fk)), (vy, .inl (cI, 20, .inl fv)), (gy, .inl (cI, 3, .inl fa)), (ly, .inl (cI, 4, .inl fl)), (sy, .inl (cI, 8, .inl fs))]) hD hS hA [3, 4, 5, 6, 7, 8] rfl
  refine va_callv (va_runV (As := [.int x, .int y, .int z]) (rest := []) ⟨hx, hb, hml, hown, hts⟩ (c_Machine_begin l D cI cZ tN tG s.heap.size mc ky vy gy ly sy res stp pcn fk fv fa fl fs hgt ap x y z) (cwV 3 hts (gd4 k_258 k_260 k_5 k_21 k_261) rfl rfl rfl (by decide +kernel) ⟨Nat.le_of_ble_eq_true rfl, Nat.le_of_ble_eq_true rfl⟩) ⟨MZ_blind, va_recv (q0 := 3) (ci := 3) hE.1 hP rfl rfl, mz_pre hE hZ hS hPc hDc hFc⟩ rfl rfl hl.1 rfl (lv_room (Nat.le_of_ble_eq_true rfl)) d_Machine_run_5 ⟨Nat.zero_le _, Nat.zero_le _⟩) hS (fun q _ h => hFc q h) hFc (fun u t H1 locs ht hvm hw hB hz1 hk1 hS => ?_)
  obtain ⟨hP1, hD1⟩ := hB
  rw [ht] at hP1
  obtain ⟨hP, hD⟩ := va_join (wr := [(pr, .inr (1, [.int kd, .int sz, .int ac, .ref po, .ref pn])), (po, .inl (cI, 64, .inl fo)), (pn, .inl (cI, 64, .inl fn))]) (w1 := [(mc, .inr (3, [.int 0, .int 0, .int 0, .ref ky, .ref vy, .ref gy, .ref ly, .ref sy, .int 0, .int 0])), (ky, .inl (cI, 20, .inl fk)), (vy, .inl (cI, 20, .inl fv)), (gy, .inl (cI, 3, .inl (wr (wr (wr fa 3 0 x) 3 1 y) 3 2 z))), (ly, .inl (cI, 4, .inl (fun _ => 0))), (sy, .inl (cI, 8, .inl fs))]) hP hD [3, 4, 5, 6, 7, 8] [0, 1, 2] rfl rfl (by decide) (by decide) hk1 hFc hP1 hD1
  generalize H1 = H at hP hS ⊢
  have hP : va_P D classes [(pr, .inr (1, [.int kd, .int sz, .int ac, .ref po, .ref pn])), (po, .inl (cI, 64, .inl fo)), (pn, .inl (cI, 64, .inl fn)), (mc, .inr (3, [.int 0, .int 0, .int 0, .ref ky, .ref vy, .ref gy, .ref ly, .ref sy, .int 0, .int 0])), (ky, .inl (cI, 20, .inl fk)), (vy, .inl (cI, 20, .inl fv)), (gy, .inl (cI, 3, .inl (wr (wr (wr fa 3 0 x) 3 1 y) 3 2 z))), (ly, .inl (cI, 4, .inl (fun _ => 0))), (sy, .inl (cI, 8, .inl fs))] H := hP
  have hD : va_D A [(pr, .inr (1, [.int kd, .int sz, .int ac, .ref po, .ref pn])), (po, .inl (cI, 64, .inl fo)), (pn, .inl (cI, 64, .inl fn)), (mc, .inr (3, [.int 0, .int 0, .int 0, .ref ky, .ref vy, .ref gy, .ref ly, .ref sy, .int 0, .int 0])), (ky, .inl (cI, 20, .inl fk)), (vy, .inl (cI, 20, .inl fv)), (gy, .inl (cI, 3, .inl (wr (wr (wr fa 3 0 x) 3 1 y) 3 2 z))), (ly, .inl (cI, 4, .inl (fun _ => 0))), (sy, .inl (cI, 8, .inl fs))] := hD
  refine lv_iconst (v := 3) hx hb d_Machine_run_8 (by decide) ?_
  refine lv_istore hx hb d_Machine_run_9 hl (by decide) rfl (fun ls hl => ?_)
  have hl : lv_has ls 7 [(5, .int 3), (0, .ref mc), (1, .ref pr), (2, .int x), (3, .int y), (4, .int z)] := hl
  refine lv_iconst (v := 0) hx hb d_Machine_run_11 (by decide) ?_
  refine lv_istore hx hb d_Machine_run_12 hl (by decide) rfl (fun ls hl => ?_)
  have hl : lv_has ls 7 [(6, .int 0), (5, .int 3), (0, .ref mc), (1, .ref pr), (2, .int x), (3, .int y), (4, .int z)] := hl
  have key : ∀ (N : Nat) (j : Nat) (o1 res1 stp1 pcn1 : Int32) (fk1 fv1 fa1 fl1 fs1 : Nat → Int32) (hgt1 ap1 : Int32) (H : Heap) (locs : List Loc) (ls : Array Slot), j + N = 300 → lv_has ls 7 [(6, .int (nI j)), (5, .int o1), (0, .ref mc), (1, .ref pr)] → va_P D classes [(pr, .inr (1, [.int kd, .int sz, .int ac, .ref po, .ref pn])), (po, .inl (cI, 64, .inl fo)), (pn, .inl (cI, 64, .inl fn)), (mc, .inr (3, [.int res1, .int stp1, .int pcn1, .ref ky, .ref vy, .ref gy, .ref ly, .ref sy, .int hgt1, .int ap1])), (ky, .inl (cI, 20, .inl fk1)), (vy, .inl (cI, 20, .inl fv1)), (gy, .inl (cI, 3, .inl fa1)), (ly, .inl (cI, 4, .inl fl1)), (sy, .inl (cI, 8, .inl fs1))] H → va_D A [(pr, .inr (1, [.int kd, .int sz, .int ac, .ref po, .ref pn])), (po, .inl (cI, 64, .inl fo)), (pn, .inl (cI, 64, .inl fn)), (mc, .inr (3, [.int res1, .int stp1, .int pcn1, .ref ky, .ref vy, .ref gy, .ref ly, .ref sy, .int hgt1, .int ap1])), (ky, .inl (cI, 20, .inl fk1)), (vy, .inl (cI, 20, .inl fv1)), (gy, .inl (cI, 3, .inl fa1)), (ly, .inl (cI, 4, .inl fl1)), (sy, .inl (cI, 8, .inl fs1))] → m_fin (m_loop kd fo fn N o1 (res1, stp1, pcn1, fk1, fv1, fa1, fl1, fs1, hgt1, ap1)) = m_run kd fo fn x y z (res, stp, pcn, fk, fv, fa, fl, fs, hgt, ap) → va_S A s.heap H locs → W p l e (headSpec w_Machine_run (rmk 4)).room s m ([.ref mc, .ref pr, .int x, .int y, .int z] : List Value).toArray below meth c H locs 0 0 (MQ below (va_Qi (fun (r : Int32) (u : MS) => (r, u) = m_run kd fo fn x y z (res, stp, pcn, fk, fv, fa, fl, fs, hgt, ap)) (fun u t => ME D A [(pr, .inr (1, [.int kd, .int sz, .int ac, .ref po, .ref pn])), (po, .inl (cI, 64, .inl fo)), (pn, .inl (cI, 64, .inl fn)), (mc, .inr (3, [.int u.1, .int u.2.1, .int u.2.2.1, .ref ky, .ref vy, .ref gy, .ref ly, .ref sy, .int u.2.2.2.2.2.2.2.2.1, .int u.2.2.2.2.2.2.2.2.2])), (ky, .inl (cI, 20, .inl u.2.2.2.1)), (vy, .inl (cI, 20, .inl u.2.2.2.2.1)), (gy, .inl (cI, 3, .inl u.2.2.2.2.2.1)), (ly, .inl (cI, 4, .inl u.2.2.2.2.2.2.1)), (sy, .inl (cI, 8, .inl u.2.2.2.2.2.2.2.1))] t) A) ([.ref mc, .ref pr, .int x, .int y, .int z] : List Value).toArray s 0 0 A) (F0 m 14 ls []) := by
    intro N
    induction N with
    | zero =>
      intro j o1 res1 stp1 pcn1 fk1 fv1 fa1 fl1 fs1 hgt1 ap1 H locs ls hjN hl hP hD hT hS
      refine lv_iload hx hb d_Machine_run_14 (lv_at hl 0 rfl) ?_
      refine lv_sipush (v := 300) hx hb d_Machine_run_16 (by decide) ?_
      refine lv_icmp_ge (tgt := 70) hx hb d_Machine_run_19 (by decide) (fun h1 => ?_) (fun h1 => ?_)
      · -- 300 ≤ (nI j)
        refine lv_iload hx hb d_Machine_run_70 (lv_at hl 1 rfl) ?_
        refine lv_iconst (v := 3) hx hb d_Machine_run_72 (by decide) ?_
        refine lv_icmp_eq (tgt := 82) hx hb d_Machine_run_73 (by decide) (fun h2 => ?_) (fun h2 => ?_)
        · -- o1 = 3
          refine lv_aload_n hx hb d_Machine_run_82 rfl (lv_at hl 2 rfl) ?_
          refine lv_iconst (v := 0) hx hb d_Machine_run_83 (by decide) ?_
          refine va_put (D := D) (ci := 3) (v := .int 0) (ty := .int) (C := R_Machine) (T := F_Machine) (N := 10) hx hb hts in_Machine t_Machine t_Machine_ok n_Machine hown hE.1 hP hD hS 3 rfl rfl 2 (by decide) (hts _ k_87) (fun _ h9 => h9) rfl (by decide +kernel) rfl rfl (Nat.le_of_ble_eq_true rfl) d_Machine_run_84 (fun H locs hP hD hS => ?_)
          have hP : va_P D classes [(pr, .inr (1, [.int kd, .int sz, .int ac, .ref po, .ref pn])), (po, .inl (cI, 64, .inl fo)), (pn, .inl (cI, 64, .inl fn)), (mc, .inr (3, [.int res1, .int stp1, .int 0, .ref ky, .ref vy, .ref gy, .ref ly, .ref sy, .int hgt1, .int ap1])), (ky, .inl (cI, 20, .inl fk1)), (vy, .inl (cI, 20, .inl fv1)), (gy, .inl (cI, 3, .inl fa1)), (ly, .inl (cI, 4, .inl fl1)), (sy, .inl (cI, 8, .inl fs1))] H := hP
          have hD : va_D A [(pr, .inr (1, [.int kd, .int sz, .int ac, .ref po, .ref pn])), (po, .inl (cI, 64, .inl fo)), (pn, .inl (cI, 64, .inl fn)), (mc, .inr (3, [.int res1, .int stp1, .int 0, .ref ky, .ref vy, .ref gy, .ref ly, .ref sy, .int hgt1, .int ap1])), (ky, .inl (cI, 20, .inl fk1)), (vy, .inl (cI, 20, .inl fv1)), (gy, .inl (cI, 3, .inl fa1)), (ly, .inl (cI, 4, .inl fl1)), (sy, .inl (cI, 8, .inl fs1))] := hD
          refine lv_iconst (v := 2) hx hb d_Machine_run_87 (by decide) ?_
          refine W.iret hx hb hr (fun t ht hW => ⟨⟨2, (res1, stp1, 0, fk1, fv1, fa1, fl1, fs1, hgt1, ap1), rfl, ?_, ?_⟩, hS.F ht⟩) hS.2.2 d_Machine_run_88
          · (rw [← hT]; simp only [m_loop, m_fin, h2, if_true, if_false, eq_self, not_true_eq_false, not_false_eq_true, ne_eq]; first | rfl | done)
          · exact ⟨by rw [ht]; exact hP.sub [0, 1, 2, 3, 4, 5, 6, 7, 8] rfl, hD.sub [0, 1, 2, 3, 4, 5, 6, 7, 8] (by decide) rfl⟩
        · -- ¬ o1 = 3
          refine lv_iload hx hb d_Machine_run_76 (lv_at hl 1 rfl) ?_
          refine lv_iconst (v := 2) hx hb d_Machine_run_78 (by decide) ?_
          refine lv_icmp_ne (tgt := 89) hx hb d_Machine_run_79 (by decide) (fun h3 => ?_) (fun h3 => ?_)
          · -- ¬ o1 = 2
            refine lv_iload hx hb d_Machine_run_89 (lv_at hl 1 rfl) ?_
            refine W.iret hx hb hr (fun t ht hW => ⟨⟨o1, (res1, stp1, pcn1, fk1, fv1, fa1, fl1, fs1, hgt1, ap1), rfl, ?_, ?_⟩, hS.F ht⟩) hS.2.2 d_Machine_run_91
            · (rw [← hT]; simp only [m_loop, m_fin, h2, h3, if_true, if_false, eq_self, not_true_eq_false, not_false_eq_true, ne_eq]; first | rfl | done)
            · exact ⟨by rw [ht]; exact hP.sub [0, 1, 2, 3, 4, 5, 6, 7, 8] rfl, hD.sub [0, 1, 2, 3, 4, 5, 6, 7, 8] (by decide) rfl⟩
          · -- o1 = 2
            refine lv_aload_n hx hb d_Machine_run_82 rfl (lv_at hl 2 rfl) ?_
            refine lv_iconst (v := 0) hx hb d_Machine_run_83 (by decide) ?_
            refine va_put (D := D) (ci := 3) (v := .int 0) (ty := .int) (C := R_Machine) (T := F_Machine) (N := 10) hx hb hts in_Machine t_Machine t_Machine_ok n_Machine hown hE.1 hP hD hS 3 rfl rfl 2 (by decide) (hts _ k_87) (fun _ h9 => h9) rfl (by decide +kernel) rfl rfl (Nat.le_of_ble_eq_true rfl) d_Machine_run_84 (fun H locs hP hD hS => ?_)
            have hP : va_P D classes [(pr, .inr (1, [.int kd, .int sz, .int ac, .ref po, .ref pn])), (po, .inl (cI, 64, .inl fo)), (pn, .inl (cI, 64, .inl fn)), (mc, .inr (3, [.int res1, .int stp1, .int 0, .ref ky, .ref vy, .ref gy, .ref ly, .ref sy, .int hgt1, .int ap1])), (ky, .inl (cI, 20, .inl fk1)), (vy, .inl (cI, 20, .inl fv1)), (gy, .inl (cI, 3, .inl fa1)), (ly, .inl (cI, 4, .inl fl1)), (sy, .inl (cI, 8, .inl fs1))] H := hP
            have hD : va_D A [(pr, .inr (1, [.int kd, .int sz, .int ac, .ref po, .ref pn])), (po, .inl (cI, 64, .inl fo)), (pn, .inl (cI, 64, .inl fn)), (mc, .inr (3, [.int res1, .int stp1, .int 0, .ref ky, .ref vy, .ref gy, .ref ly, .ref sy, .int hgt1, .int ap1])), (ky, .inl (cI, 20, .inl fk1)), (vy, .inl (cI, 20, .inl fv1)), (gy, .inl (cI, 3, .inl fa1)), (ly, .inl (cI, 4, .inl fl1)), (sy, .inl (cI, 8, .inl fs1))] := hD
            refine lv_iconst (v := 2) hx hb d_Machine_run_87 (by decide) ?_
            refine W.iret hx hb hr (fun t ht hW => ⟨⟨2, (res1, stp1, 0, fk1, fv1, fa1, fl1, fs1, hgt1, ap1), rfl, ?_, ?_⟩, hS.F ht⟩) hS.2.2 d_Machine_run_88
            · (rw [← hT]; simp only [m_loop, m_fin, h2, h3, if_true, if_false, eq_self, not_true_eq_false, not_false_eq_true, ne_eq]; first | rfl | done)
            · exact ⟨by rw [ht]; exact hP.sub [0, 1, 2, 3, 4, 5, 6, 7, 8] rfl, hD.sub [0, 1, 2, 3, 4, 5, 6, 7, 8] (by decide) rfl⟩
      · -- ¬ 300 ≤ (nI j)
        exact absurd (show nI 300 ≤ nI j from nI_le (by omega) (by omega)) h1
    | succ N ih =>
      intro j o1 res1 stp1 pcn1 fk1 fv1 fa1 fl1 fs1 hgt1 ap1 H locs ls hjN hl hP hD hT hS
      refine lv_iload hx hb d_Machine_run_14 (lv_at hl 0 rfl) ?_
      refine lv_sipush (v := 300) hx hb d_Machine_run_16 (by decide) ?_
      refine lv_icmp_ge (tgt := 70) hx hb d_Machine_run_19 (by decide) (fun h4 => ?_) (fun h4 => ?_)
      · -- 300 ≤ (nI j)
        exact absurd (show nI 300 ≤ nI j from h4) (nI_ge (by omega) (by omega))
      · -- ¬ 300 ≤ (nI j)
        refine lv_iload hx hb d_Machine_run_22 (lv_at hl 1 rfl) ?_
        refine lv_iconst (v := 3) hx hb d_Machine_run_24 (by decide) ?_
        refine lv_icmp_ne (tgt := 70) hx hb d_Machine_run_25 (by decide) (fun h5 => ?_) (fun h5 => ?_)
        · -- ¬ o1 = 3
          refine lv_iload hx hb d_Machine_run_70 (lv_at hl 1 rfl) ?_
          refine lv_iconst (v := 3) hx hb d_Machine_run_72 (by decide) ?_
          refine lv_icmp_eq (tgt := 82) hx hb d_Machine_run_73 (by decide) (fun h6 => ?_) (fun h6 => ?_)
          · -- o1 = 3
            exact absurd (by rw [h6]; first | done | decide) h5
          · -- ¬ o1 = 3
            refine lv_iload hx hb d_Machine_run_76 (lv_at hl 1 rfl) ?_
            refine lv_iconst (v := 2) hx hb d_Machine_run_78 (by decide) ?_
            refine lv_icmp_ne (tgt := 89) hx hb d_Machine_run_79 (by decide) (fun h7 => ?_) (fun h7 => ?_)
            · -- ¬ o1 = 2
              refine lv_iload hx hb d_Machine_run_89 (lv_at hl 1 rfl) ?_
              refine W.iret hx hb hr (fun t ht hW => ⟨⟨o1, (res1, stp1, pcn1, fk1, fv1, fa1, fl1, fs1, hgt1, ap1), rfl, ?_, ?_⟩, hS.F ht⟩) hS.2.2 d_Machine_run_91
              · (rw [← hT]; simp only [m_loop, m_fin, h5, h6, h7, if_true, if_false, eq_self, not_true_eq_false, not_false_eq_true, ne_eq]; first | rfl | done)
              · exact ⟨by rw [ht]; exact hP.sub [0, 1, 2, 3, 4, 5, 6, 7, 8] rfl, hD.sub [0, 1, 2, 3, 4, 5, 6, 7, 8] (by decide) rfl⟩
            · -- o1 = 2
              refine lv_aload_n hx hb d_Machine_run_82 rfl (lv_at hl 2 rfl) ?_
              refine lv_iconst (v := 0) hx hb d_Machine_run_83 (by decide) ?_
              refine va_put (D := D) (ci := 3) (v := .int 0) (ty := .int) (C := R_Machine) (T := F_Machine) (N := 10) hx hb hts in_Machine t_Machine t_Machine_ok n_Machine hown hE.1 hP hD hS 3 rfl rfl 2 (by decide) (hts _ k_87) (fun _ h9 => h9) rfl (by decide +kernel) rfl rfl (Nat.le_of_ble_eq_true rfl) d_Machine_run_84 (fun H locs hP hD hS => ?_)
              have hP : va_P D classes [(pr, .inr (1, [.int kd, .int sz, .int ac, .ref po, .ref pn])), (po, .inl (cI, 64, .inl fo)), (pn, .inl (cI, 64, .inl fn)), (mc, .inr (3, [.int res1, .int stp1, .int 0, .ref ky, .ref vy, .ref gy, .ref ly, .ref sy, .int hgt1, .int ap1])), (ky, .inl (cI, 20, .inl fk1)), (vy, .inl (cI, 20, .inl fv1)), (gy, .inl (cI, 3, .inl fa1)), (ly, .inl (cI, 4, .inl fl1)), (sy, .inl (cI, 8, .inl fs1))] H := hP
              have hD : va_D A [(pr, .inr (1, [.int kd, .int sz, .int ac, .ref po, .ref pn])), (po, .inl (cI, 64, .inl fo)), (pn, .inl (cI, 64, .inl fn)), (mc, .inr (3, [.int res1, .int stp1, .int 0, .ref ky, .ref vy, .ref gy, .ref ly, .ref sy, .int hgt1, .int ap1])), (ky, .inl (cI, 20, .inl fk1)), (vy, .inl (cI, 20, .inl fv1)), (gy, .inl (cI, 3, .inl fa1)), (ly, .inl (cI, 4, .inl fl1)), (sy, .inl (cI, 8, .inl fs1))] := hD
              refine lv_iconst (v := 2) hx hb d_Machine_run_87 (by decide) ?_
              refine W.iret hx hb hr (fun t ht hW => ⟨⟨2, (res1, stp1, 0, fk1, fv1, fa1, fl1, fs1, hgt1, ap1), rfl, ?_, ?_⟩, hS.F ht⟩) hS.2.2 d_Machine_run_88
              · (rw [← hT]; simp only [m_loop, m_fin, h5, h6, h7, if_true, if_false, eq_self, not_true_eq_false, not_false_eq_true, ne_eq]; first | rfl | done)
              · exact ⟨by rw [ht]; exact hP.sub [0, 1, 2, 3, 4, 5, 6, 7, 8] rfl, hD.sub [0, 1, 2, 3, 4, 5, 6, 7, 8] (by decide) rfl⟩
        · -- o1 = 3
          refine lv_aload_n hx hb d_Machine_run_28 rfl (lv_at hl 2 rfl) ?_
          refine lv_dup hx hb d_Machine_run_29 rfl ?_
          refine va_get (D := D) (ci := 3) (v := .int stp1) (C := R_Machine) (T := F_Machine) (N := 10) hx hb hts in_Machine hown hE.1 hP 3 rfl rfl 1 (by decide) (hts _ k_85) (fun _ h9 => h9) rfl d_Machine_run_30 ?_
          refine lv_iconst (v := 1) hx hb d_Machine_run_33 (by decide) ?_
          refine lv_iadd hx hb d_Machine_run_34 ?_
          refine va_put (D := D) (ci := 3) (v := .int (stp1 + 1)) (ty := .int) (C := R_Machine) (T := F_Machine) (N := 10) hx hb hts in_Machine t_Machine t_Machine_ok n_Machine hown hE.1 hP hD hS 3 rfl rfl 1 (by decide) (hts _ k_85) (fun _ h9 => h9) rfl (by decide +kernel) rfl rfl (Nat.le_of_ble_eq_true rfl) d_Machine_run_35 (fun H locs hP hD hS => ?_)
          have hP : va_P D classes [(pr, .inr (1, [.int kd, .int sz, .int ac, .ref po, .ref pn])), (po, .inl (cI, 64, .inl fo)), (pn, .inl (cI, 64, .inl fn)), (mc, .inr (3, [.int res1, .int (stp1 + 1), .int pcn1, .ref ky, .ref vy, .ref gy, .ref ly, .ref sy, .int hgt1, .int ap1])), (ky, .inl (cI, 20, .inl fk1)), (vy, .inl (cI, 20, .inl fv1)), (gy, .inl (cI, 3, .inl fa1)), (ly, .inl (cI, 4, .inl fl1)), (sy, .inl (cI, 8, .inl fs1))] H := hP
          have hD : va_D A [(pr, .inr (1, [.int kd, .int sz, .int ac, .ref po, .ref pn])), (po, .inl (cI, 64, .inl fo)), (pn, .inl (cI, 64, .inl fn)), (mc, .inr (3, [.int res1, .int (stp1 + 1), .int pcn1, .ref ky, .ref vy, .ref gy, .ref ly, .ref sy, .int hgt1, .int ap1])), (ky, .inl (cI, 20, .inl fk1)), (vy, .inl (cI, 20, .inl fv1)), (gy, .inl (cI, 3, .inl fa1)), (ly, .inl (cI, 4, .inl fl1)), (sy, .inl (cI, 8, .inl fs1))] := hD
          refine lv_aload_n hx hb d_Machine_run_38 rfl (lv_at hl 2 rfl) ?_
          refine lv_aload_n hx hb d_Machine_run_39 rfl (lv_at hl 3 rfl) ?_
          refine lv_aload_n hx hb d_Machine_run_40 rfl (lv_at hl 2 rfl) ?_
          refine va_get (D := D) (ci := 3) (v := .int ap1) (C := R_Machine) (T := F_Machine) (N := 10) hx hb hts in_Machine hown hE.1 hP 3 rfl rfl 9 (by decide) (hts _ k_97) (fun _ h9 => h9) rfl d_Machine_run_41 ?_
          refine vp_callSi (va_Run.run (va_runV (As := [.int ap1]) (rest := [.ref mc]) ⟨hx, hb, hml, hown, hts⟩ (c_Program_opAt l D cI cZ tN tG pr po pn kd sz ac fo fn ap1) (cwV 1 hts (gd4 k_264 k_188 k_189 k_19 k_190) rfl rfl rfl (by decide +kernel) ⟨Nat.le_of_ble_eq_true rfl, Nat.le_of_ble_eq_true rfl⟩) ⟨PZ_blind, va_recv (q0 := 0) (ci := 1) hE.1 hP rfl rfl, pz_pre hE hZ hS (hP.sub [0, 1, 2] rfl)⟩ rfl rfl hl.1 rfl (lv_room (Nat.le_of_ble_eq_true rfl)) d_Machine_run_44 ⟨Nat.zero_le _, Nat.zero_le _⟩)) (fun r hq => ?_)
          subst hq
          refine lv_aload_n hx hb d_Machine_run_47 rfl (lv_at hl 3 rfl) ?_
          refine lv_aload_n hx hb d_Machine_run_48 rfl (lv_at hl 2 rfl) ?_
          refine va_get (D := D) (ci := 3) (v := .int ap1) (C := R_Machine) (T := F_Machine) (N := 10) hx hb hts in_Machine hown hE.1 hP 3 rfl rfl 9 (by decide) (hts _ k_97) (fun _ h9 => h9) rfl d_Machine_run_49 ?_
          refine vp_callSi (va_Run.run (va_runV (As := [.int ap1]) (rest := [.int (rd fo 64 ap1), .ref mc]) ⟨hx, hb, hml, hown, hts⟩ (c_Program_nAt l D cI cZ tN tG pr po pn kd sz ac fo fn ap1) (cwV 1 hts (gd4 k_265 k_225 k_226 k_19 k_227) rfl rfl rfl (by decide +kernel) ⟨Nat.le_of_ble_eq_true rfl, Nat.le_of_ble_eq_true rfl⟩) ⟨PZ_blind, va_recv (q0 := 0) (ci := 1) hE.1 hP rfl rfl, pz_pre hE hZ hS (hP.sub [0, 1, 2] rfl)⟩ rfl rfl hl.1 rfl (lv_room (Nat.le_of_ble_eq_true rfl)) d_Machine_run_52 ⟨Nat.zero_le _, Nat.zero_le _⟩)) (fun r hq => ?_)
          subst hq
          refine lv_aload_n hx hb d_Machine_run_55 rfl (lv_at hl 3 rfl) ?_
          refine va_get (D := D) (ci := 1) (v := .int kd) (C := R_Program) (T := F_Program) (N := 5) hx hb hts in_Program hown hE.1 hP 0 rfl rfl 0 (by decide) (hts _ k_41) (fun _ h9 => h9) rfl d_Machine_run_56 ?_
          have hPc := hP.sub (ws' := [(mc, .inr (3, [.int res1, .int (stp1 + 1), .int pcn1, .ref ky, .ref vy, .ref gy, .ref ly, .ref sy, .int hgt1, .int ap1])), (ky, .inl (cI, 20, .inl fk1)), (vy, .inl (cI, 20, .inl fv1)), (gy, .inl (cI, 3, .inl fa1)), (ly, .inl (cI, 4, .inl fl1)), (sy, .inl (cI, 8, .inl fs1))]) [3, 4, 5, 6, 7, 8] rfl
          have hDc := hD.sub (ws' := [(mc, .inr (3, [.int res1, .int (stp1 + 1), .int pcn1, .ref ky, .ref vy, .ref gy, .ref ly, .ref sy, .int hgt1, .int ap1])), (ky, .inl (cI, 20, .inl fk1)), (vy, .inl (cI, 20, .inl fv1)), (gy, .inl (cI, 3, .inl fa1)), (ly, .inl (cI, 4, .inl fl1)), (sy, .inl (cI, 8, .inl fs1))]) [3, 4, 5, 6, 7, 8] (by decide) rfl
          have hFc := va_free (wc := [(mc, .inr (3, [.int res1, .int (stp1 + 1), .int pcn1, .ref ky, .ref vy, .ref gy, .ref ly, .ref sy, .int hgt1, .int ap1])), (ky, .inl (cI, 20, .inl fk1)), (vy, .inl (cI, 20, .inl fv1)), (gy, .inl (cI, 3, .inl fa1)), (ly, .inl (cI, 4, .inl fl1)), (sy, .inl (cI, 8, .inl fs1))]) hD hS hA [3, 4, 5, 6, 7, 8] rfl
          refine va_calli (va_runV (As := [.int (rd fo 64 ap1), .int (rd fn 64 ap1), .int kd]) (rest := []) ⟨hx, hb, hml, hown, hts⟩ (c_Machine_doOne l D cI cZ tN tG H.size mc ky vy gy ly sy res1 (stp1 + 1) pcn1 fk1 fv1 fa1 fl1 fs1 hgt1 ap1 (rd fo 64 ap1) (rd fn 64 ap1) kd) (cwV 3 hts (gd4 k_266 k_268 k_6 k_21 k_269) rfl rfl rfl (by decide +kernel) ⟨Nat.le_of_ble_eq_true rfl, Nat.le_of_ble_eq_true rfl⟩) ⟨MZ_blind, va_recv (q0 := 3) (ci := 3) hE.1 hP rfl rfl, mz_pre hE hZ hS hPc hDc hFc⟩ rfl rfl hl.1 rfl (lv_room (Nat.le_of_ble_eq_true rfl)) d_Machine_run_59 ⟨Nat.zero_le _, Nat.zero_le _⟩) hS (fun q _ h => hFc q h) hFc (fun r u t H1 locs ht hvm hw hB hz1 hk1 hS => ?_)
          obtain ⟨hP1, hD1⟩ := hB
          rw [ht] at hP1
          have hr1 := congrArg Prod.fst hw
          have hu1 := congrArg Prod.snd hw
          dsimp only at hr1 hu1
          subst hr1
          subst hu1
          obtain ⟨hP, hD⟩ := va_join (wr := [(pr, .inr (1, [.int kd, .int sz, .int ac, .ref po, .ref pn])), (po, .inl (cI, 64, .inl fo)), (pn, .inl (cI, 64, .inl fn))]) (w1 := [(mc, .inr (3, [.int ((m_one (rd fo 64 ap1) (rd fn 64 ap1) kd (res1, (stp1 + 1), pcn1, fk1, fv1, fa1, fl1, fs1, hgt1, ap1)).2.1), .int ((m_one (rd fo 64 ap1) (rd fn 64 ap1) kd (res1, (stp1 + 1), pcn1, fk1, fv1, fa1, fl1, fs1, hgt1, ap1)).2.2.1), .int ((m_one (rd fo 64 ap1) (rd fn 64 ap1) kd (res1, (stp1 + 1), pcn1, fk1, fv1, fa1, fl1, fs1, hgt1, ap1)).2.2.2.1), .ref ky, .ref vy, .ref gy, .ref ly, .ref sy, .int ((m_one (rd fo 64 ap1) (rd fn 64 ap1) kd (res1, (stp1 + 1), pcn1, fk1, fv1, fa1, fl1, fs1, hgt1, ap1)).2.2.2.2.2.2.2.2.2.1), .int ((m_one (rd fo 64 ap1) (rd fn 64 ap1) kd (res1, (stp1 + 1), pcn1, fk1, fv1, fa1, fl1, fs1, hgt1, ap1)).2.2.2.2.2.2.2.2.2.2)])), (ky, .inl (cI, 20, .inl ((m_one (rd fo 64 ap1) (rd fn 64 ap1) kd (res1, (stp1 + 1), pcn1, fk1, fv1, fa1, fl1, fs1, hgt1, ap1)).2.2.2.2.1))), (vy, .inl (cI, 20, .inl ((m_one (rd fo 64 ap1) (rd fn 64 ap1) kd (res1, (stp1 + 1), pcn1, fk1, fv1, fa1, fl1, fs1, hgt1, ap1)).2.2.2.2.2.1))), (gy, .inl (cI, 3, .inl ((m_one (rd fo 64 ap1) (rd fn 64 ap1) kd (res1, (stp1 + 1), pcn1, fk1, fv1, fa1, fl1, fs1, hgt1, ap1)).2.2.2.2.2.2.1))), (ly, .inl (cI, 4, .inl ((m_one (rd fo 64 ap1) (rd fn 64 ap1) kd (res1, (stp1 + 1), pcn1, fk1, fv1, fa1, fl1, fs1, hgt1, ap1)).2.2.2.2.2.2.2.1))), (sy, .inl (cI, 8, .inl ((m_one (rd fo 64 ap1) (rd fn 64 ap1) kd (res1, (stp1 + 1), pcn1, fk1, fv1, fa1, fl1, fs1, hgt1, ap1)).2.2.2.2.2.2.2.2.1)))]) hP hD [3, 4, 5, 6, 7, 8] [0, 1, 2] rfl rfl (by decide) (by decide) hk1 hFc hP1 hD1
          generalize H1 = H at hP hS ⊢
          have hP : va_P D classes [(pr, .inr (1, [.int kd, .int sz, .int ac, .ref po, .ref pn])), (po, .inl (cI, 64, .inl fo)), (pn, .inl (cI, 64, .inl fn)), (mc, .inr (3, [.int ((m_one (rd fo 64 ap1) (rd fn 64 ap1) kd (res1, (stp1 + 1), pcn1, fk1, fv1, fa1, fl1, fs1, hgt1, ap1)).2.1), .int ((m_one (rd fo 64 ap1) (rd fn 64 ap1) kd (res1, (stp1 + 1), pcn1, fk1, fv1, fa1, fl1, fs1, hgt1, ap1)).2.2.1), .int ((m_one (rd fo 64 ap1) (rd fn 64 ap1) kd (res1, (stp1 + 1), pcn1, fk1, fv1, fa1, fl1, fs1, hgt1, ap1)).2.2.2.1), .ref ky, .ref vy, .ref gy, .ref ly, .ref sy, .int ((m_one (rd fo 64 ap1) (rd fn 64 ap1) kd (res1, (stp1 + 1), pcn1, fk1, fv1, fa1, fl1, fs1, hgt1, ap1)).2.2.2.2.2.2.2.2.2.1), .int ((m_one (rd fo 64 ap1) (rd fn 64 ap1) kd (res1, (stp1 + 1), pcn1, fk1, fv1, fa1, fl1, fs1, hgt1, ap1)).2.2.2.2.2.2.2.2.2.2)])), (ky, .inl (cI, 20, .inl ((m_one (rd fo 64 ap1) (rd fn 64 ap1) kd (res1, (stp1 + 1), pcn1, fk1, fv1, fa1, fl1, fs1, hgt1, ap1)).2.2.2.2.1))), (vy, .inl (cI, 20, .inl ((m_one (rd fo 64 ap1) (rd fn 64 ap1) kd (res1, (stp1 + 1), pcn1, fk1, fv1, fa1, fl1, fs1, hgt1, ap1)).2.2.2.2.2.1))), (gy, .inl (cI, 3, .inl ((m_one (rd fo 64 ap1) (rd fn 64 ap1) kd (res1, (stp1 + 1), pcn1, fk1, fv1, fa1, fl1, fs1, hgt1, ap1)).2.2.2.2.2.2.1))), (ly, .inl (cI, 4, .inl ((m_one (rd fo 64 ap1) (rd fn 64 ap1) kd (res1, (stp1 + 1), pcn1, fk1, fv1, fa1, fl1, fs1, hgt1, ap1)).2.2.2.2.2.2.2.1))), (sy, .inl (cI, 8, .inl ((m_one (rd fo 64 ap1) (rd fn 64 ap1) kd (res1, (stp1 + 1), pcn1, fk1, fv1, fa1, fl1, fs1, hgt1, ap1)).2.2.2.2.2.2.2.2.1)))] H := hP
          have hD : va_D A [(pr, .inr (1, [.int kd, .int sz, .int ac, .ref po, .ref pn])), (po, .inl (cI, 64, .inl fo)), (pn, .inl (cI, 64, .inl fn)), (mc, .inr (3, [.int ((m_one (rd fo 64 ap1) (rd fn 64 ap1) kd (res1, (stp1 + 1), pcn1, fk1, fv1, fa1, fl1, fs1, hgt1, ap1)).2.1), .int ((m_one (rd fo 64 ap1) (rd fn 64 ap1) kd (res1, (stp1 + 1), pcn1, fk1, fv1, fa1, fl1, fs1, hgt1, ap1)).2.2.1), .int ((m_one (rd fo 64 ap1) (rd fn 64 ap1) kd (res1, (stp1 + 1), pcn1, fk1, fv1, fa1, fl1, fs1, hgt1, ap1)).2.2.2.1), .ref ky, .ref vy, .ref gy, .ref ly, .ref sy, .int ((m_one (rd fo 64 ap1) (rd fn 64 ap1) kd (res1, (stp1 + 1), pcn1, fk1, fv1, fa1, fl1, fs1, hgt1, ap1)).2.2.2.2.2.2.2.2.2.1), .int ((m_one (rd fo 64 ap1) (rd fn 64 ap1) kd (res1, (stp1 + 1), pcn1, fk1, fv1, fa1, fl1, fs1, hgt1, ap1)).2.2.2.2.2.2.2.2.2.2)])), (ky, .inl (cI, 20, .inl ((m_one (rd fo 64 ap1) (rd fn 64 ap1) kd (res1, (stp1 + 1), pcn1, fk1, fv1, fa1, fl1, fs1, hgt1, ap1)).2.2.2.2.1))), (vy, .inl (cI, 20, .inl ((m_one (rd fo 64 ap1) (rd fn 64 ap1) kd (res1, (stp1 + 1), pcn1, fk1, fv1, fa1, fl1, fs1, hgt1, ap1)).2.2.2.2.2.1))), (gy, .inl (cI, 3, .inl ((m_one (rd fo 64 ap1) (rd fn 64 ap1) kd (res1, (stp1 + 1), pcn1, fk1, fv1, fa1, fl1, fs1, hgt1, ap1)).2.2.2.2.2.2.1))), (ly, .inl (cI, 4, .inl ((m_one (rd fo 64 ap1) (rd fn 64 ap1) kd (res1, (stp1 + 1), pcn1, fk1, fv1, fa1, fl1, fs1, hgt1, ap1)).2.2.2.2.2.2.2.1))), (sy, .inl (cI, 8, .inl ((m_one (rd fo 64 ap1) (rd fn 64 ap1) kd (res1, (stp1 + 1), pcn1, fk1, fv1, fa1, fl1, fs1, hgt1, ap1)).2.2.2.2.2.2.2.2.1)))] := hD
          refine lv_istore hx hb d_Machine_run_62 hl (by decide) rfl (fun ls hl => ?_)
          have hl : lv_has ls 7 [(5, .int ((m_one (rd fo 64 ap1) (rd fn 64 ap1) kd (res1, (stp1 + 1), pcn1, fk1, fv1, fa1, fl1, fs1, hgt1, ap1)).1)), (6, .int (nI j)), (0, .ref mc), (1, .ref pr)] := hl
          refine lv_iinc (v := ((nI j) + 1)) (k := 1) hx hb d_Machine_run_64 hl rfl rfl (by decide) rfl (fun ls hl => ?_)
          have hl : lv_has ls 7 [(6, .int ((nI j) + 1)), (5, .int ((m_one (rd fo 64 ap1) (rd fn 64 ap1) kd (res1, (stp1 + 1), pcn1, fk1, fv1, fa1, fl1, fs1, hgt1, ap1)).1)), (0, .ref mc), (1, .ref pr)] := hl
          refine lv_goto (tgt := 14) hx hb d_Machine_run_67 (by decide) ?_
          have hl := lv_sub (l' := [(6, .int (nI j + 1)), (5, .int (m_one (rd fo 64 ap1) (rd fn 64 ap1) kd (res1, (stp1 + 1), pcn1, fk1, fv1, fa1, fl1, fs1, hgt1, ap1)).1), (0, .ref mc), (1, .ref pr)]) hl [0, 1, 2, 3] rfl
          rw [nI_1] at hl
          exact ih (j + 1) _ _ _ _ _ _ _ _ _ _ _ _ _ _ (by omega) hl (hP.sub [0, 1, 2, 3, 4, 5, 6, 7, 8] rfl) (hD.sub [0, 1, 2, 3, 4, 5, 6, 7, 8] (by decide) rfl) (by rw [← hT]; simp only [m_loop, h5, if_true]; rfl) hS
  exact key 300 0 3 _ _ _ _ _ _ _ _ _ _ H locs ls rfl (lv_sub hl [0, 1, 2, 3] rfl) (hP.sub [0, 1, 2, 3, 4, 5, 6, 7, 8] rfl) (hD.sub [0, 1, 2, 3, 4, 5, 6, 7, 8] (by decide) rfl) rfl hS
