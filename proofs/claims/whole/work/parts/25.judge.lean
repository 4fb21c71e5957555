def p_app (op n : Int32) : (Nat → Int32) × (Nat → Int32) × Int32 → Int32 × ((Nat → Int32) × (Nat → Int32) × Int32)
  | (fo, fn, sz) => if sz < 64 then (1, (wr fo 64 sz op, wr fn 64 sz n, sz + 1)) else (0, (fo, fn, sz))
def j_fol (kd ac : Int32) (n : Nat) (fo fn : Nat → Int32) (u : WS) : WS := if nI n = 0 then u else w_follow kd (nI n) ac fo fn u.2.1
def j_chk (kd ac : Int32) (n : Nat) (fo fn : Nat → Int32) (u : WS) : Int32 := if nI n = 0 then 64 else w_first kd (nI n) ac fo fn (w_follow kd (nI n) ac fo fn u.2.1).1 n 0
def j_hgt (kd ac : Int32) (n : Nat) (fo fn : Nat → Int32) (k : Int32) (u : WS) : Int32 × WS := if p_has (nI n) k = 0 then (-1, u) else (rd (w_follow kd (nI n) ac fo fn u.2.1).1 64 k, w_follow kd (nI n) ac fo fn u.2.1)
def j_call (kd ac : Int32) (n : Nat) (fo fn : Nat → Int32) (x y z : Int32) (u : WS) (S : MS) : Int32 × (WS × MS) := if j_chk kd ac n fo fn u = -2 then ((m_run kd fo fn x y z S).1, (j_fol kd ac n fo fn u, (m_run kd fo fn x y z S).2)) else (-2, (j_fol kd ac n fo fn u, S))
def j_pair (pcn : Int32) (fk fv : Nat → Int32) (k what : Int32) : Int64 := if k < 0 then 1099511627776 else if k < pcn then (if what = 0 then (rd fk 20 k).toInt64 else if what = 1 then (rd fv 20 k).toInt64 else 1099511627776) else 1099511627776
set_option maxHeartbeats 4000000 in
set_option maxRecDepth 100000 in
theorem c_Program_append (l : Launch) (D : va_G) (cI cZ : ClassId) (tN tG : Nat) (hz : Nat) (pr po pn : Nat) (kd sz ac : Int32) (fo fn : Nat → Int32) (op n : Int32) : Met l y_Program_append w_Program_append (rmk 1) (va_Pc [.ref pr, .int op, .int n] (MZ D cI cZ tN tG [(pr, .inr (1, [.int kd, .int sz, .int ac, .ref po, .ref pn])), (po, .inl (cI, 64, .inl fo)), (pn, .inl (cI, 64, .inl fn))] hz)) (va_Qi (fun (r : Int32) (u : (Nat → Int32) × (Nat → Int32) × Int32) => (r, u) = p_app op n (fo, fn, sz)) (fun u t => ME D (va_A [(pr, .inr (1, [.int kd, .int sz, .int ac, .ref po, .ref pn])), (po, .inl (cI, 64, .inl fo)), (pn, .inl (cI, 64, .inl fn))] hz) [(pr, .inr (1, [.int kd, .int u.2.2, .int ac, .ref po, .ref pn])), (po, .inl (cI, 64, .inl u.1)), (pn, .inl (cI, 64, .inl u.2.1))] t) (va_A [(pr, .inr (1, [.int kd, .int sz, .int ac, .ref po, .ref pn])), (po, .inl (cI, 64, .inl fo)), (pn, .inl (cI, 64, .inl fn))] hz)) 0 0 (va_A [(pr, .inr (1, [.int kd, .int sz, .int ac, .ref po, .ref pn])), (po, .inl (cI, 64, .inl fo)), (pn, .inl (cI, 64, .inl fn))] hz) := by
  refine Met.ofW (cc := b_Program_append) (maxL := 3) (ret := (some .boolean)) (by decide) rfl ?_
  intro p e s m args below meth c s₁ B hml hv
  obtain ⟨rfl, hsz, hP, hE, hD0, hZ⟩ := hv
  have hx := B.exec
  have hb := B.bytes
  have hr := B.returns
  have hts : ∀ w ∈ gW, w.before _ s = true := fun w h => atoms_spec (ws := w_Program_append) B.pre w (List.mem_cons_of_mem _ h)
  have hown : s.vm.findClass R_Program = some m.cls := findClass_of_methodNamed B.named
  have hlocks := B.notSynchronized
  subst hsz
  have hD := hD0.self (sz := s.heap.size)
  have hA : ∀ q : Nat, s.heap.size ≤ q → va_A [(pr, .inr (1, [.int kd, .int sz, .int ac, .ref po, .ref pn])), (po, .inl (cI, 64, .inl fo)), (pn, .inl (cI, 64, .inl fn))] s.heap.size q := fun q h => Or.inr h
  generalize va_A [(pr, .inr (1, [.int kd, .int sz, .int ac, .ref po, .ref pn])), (po, .inl (cI, 64, .inl fo)), (pn, .inl (cI, 64, .inl fn))] s.heap.size = A at hD hA hZ ⊢
  have hS : va_S A s.heap s.heap [] := va_S.rf
  have hP : va_P D classes [(pr, .inr (1, [.int kd, .int sz, .int ac, .ref po, .ref pn])), (po, .inl (cI, 64, .inl fo)), (pn, .inl (cI, 64, .inl fn))] s.heap := hP
  have hD : va_D A [(pr, .inr (1, [.int kd, .int sz, .int ac, .ref po, .ref pn])), (po, .inl (cI, 64, .inl fo)), (pn, .inl (cI, 64, .inl fn))] := hD
  have hl := lv_entry ([.ref pr, .int op, .int n]) (n := 3) (Nat.le_of_ble_eq_true rfl)
  rw [lg_entry_eq]
  generalize (lg_sl ([.ref pr, .int op, .int n]) ++ List.replicate (3 - (lg_sl ([.ref pr, .int op, .int n])).length) Slot.unset).toArray = ls at hl ⊢
  have hl : lv_has ls 3 [(0, .ref pr), (1, .int op), (2, .int n)] := hl
  refine lv_aload_n hx hb d_Program_append_0 rfl (lv_at hl 0 rfl) ?_
  refine va_get (D := D) (ci := 1) (v := .int sz) (C := R_Program) (T := F_Program) (N := 5) hx hb hts in_Program hown hE.1 hP 0 rfl rfl 1 (by decide) (hts _ k_42) (fun _ h9 => h9) rfl d_Program_append_1 ?_
  refine lv_bipush (v := 64) hx hb d_Program_append_4 (by decide) ?_
  refine lv_icmp_lt (tgt := 11) hx hb d_Program_append_6 (by decide) (fun h1 => ?_) (fun h1 => ?_)
  · -- sz < 64
    refine lv_aload_n hx hb d_Program_append_11 rfl (lv_at hl 0 rfl) ?_
    refine va_get (D := D) (ci := 1) (v := .ref po) (C := R_Program) (T := F_Program) (N := 5) hx hb hts in_Program hown hE.1 hP 0 rfl rfl 3 (by decide) (hts _ k_46) (fun _ h9 => h9) rfl d_Program_append_12 ?_
    refine lv_aload_n hx hb d_Program_append_15 rfl (lv_at hl 0 rfl) ?_
    refine va_get (D := D) (ci := 1) (v := .int sz) (C := R_Program) (T := F_Program) (N := 5) hx hb hts in_Program hown hE.1 hP 0 rfl rfl 1 (by decide) (hts _ k_42) (fun _ h9 => h9) rfl d_Program_append_16 ?_
    refine lv_iload_n hx hb d_Program_append_19 rfl (lv_at hl 1 rfl) ?_
    have hPc := hP.sub (ws' := [(po, .inl (cI, 64, .inl fo))]) [1] rfl
    have hDc := hD.sub (ws' := [(po, .inl (cI, 64, .inl fo))]) [1] (by decide) rfl
    have hFc := va_free (wc := [(po, .inl (cI, 64, .inl fo))]) hD hS hA [1] rfl
    refine va_callv (va_runSN (As := [.ref po, .int sz, .int op]) (rest := []) ⟨hx, hb, hml, hown, hts⟩ (c_SJ_write l D cI cZ tN tG s.heap.size po 64 fo sz op (by decide)) ⟨va_cnB 3 hts (gd k_139) rfl rfl rfl (hE.2 _ nm_2) (hts _ k_18) (by decide +kernel) ⟨Nat.le_of_ble_eq_true rfl, Nat.le_of_ble_eq_true rfl⟩, hts _ k_138, trivial⟩ ⟨MZ_blind, mz_pre hE hZ hS hPc hDc hFc⟩ rfl rfl hl.1 rfl (lv_room (Nat.le_of_ble_eq_true rfl)) d_Program_append_20 ⟨Nat.zero_le _, Nat.zero_le _⟩) hS (fun q _ h => hFc q h) hFc (fun u t H1 locs ht hvm hw hB hz1 hk1 hS => ?_)
    obtain ⟨hP1, hD1⟩ := hB
    rw [ht] at hP1
    subst hw
    obtain ⟨hP, hD⟩ := va_join (wr := [(pr, .inr (1, [.int kd, .int sz, .int ac, .ref po, .ref pn])), (pn, .inl (cI, 64, .inl fn))]) (w1 := [(po, .inl (cI, 64, .inl (wr fo 64 sz op)))]) hP hD [1] [0, 2] rfl rfl (by decide) (by decide) hk1 hFc hP1 hD1
    generalize H1 = H at hP hS ⊢
    have hP : va_P D classes [(pr, .inr (1, [.int kd, .int sz, .int ac, .ref po, .ref pn])), (pn, .inl (cI, 64, .inl fn)), (po, .inl (cI, 64, .inl (wr fo 64 sz op)))] H := hP
    have hD : va_D A [(pr, .inr (1, [.int kd, .int sz, .int ac, .ref po, .ref pn])), (pn, .inl (cI, 64, .inl fn)), (po, .inl (cI, 64, .inl (wr fo 64 sz op)))] := hD
    refine lv_aload_n hx hb d_Program_append_23 rfl (lv_at hl 0 rfl) ?_
    refine va_get (D := D) (ci := 1) (v := .ref pn) (C := R_Program) (T := F_Program) (N := 5) hx hb hts in_Program hown hE.1 hP 0 rfl rfl 4 (by decide) (hts _ k_47) (fun _ h9 => h9) rfl d_Program_append_24 ?_
    refine lv_aload_n hx hb d_Program_append_27 rfl (lv_at hl 0 rfl) ?_
    refine va_get (D := D) (ci := 1) (v := .int sz) (C := R_Program) (T := F_Program) (N := 5) hx hb hts in_Program hown hE.1 hP 0 rfl rfl 1 (by decide) (hts _ k_42) (fun _ h9 => h9) rfl d_Program_append_28 ?_
    refine lv_iload_n hx hb d_Program_append_31 rfl (lv_at hl 2 rfl) ?_
    have hPc := hP.sub (ws' := [(pn, .inl (cI, 64, .inl fn))]) [1] rfl
    have hDc := hD.sub (ws' := [(pn, .inl (cI, 64, .inl fn))]) [1] (by decide) rfl
    have hFc := va_free (wc := [(pn, .inl (cI, 64, .inl fn))]) hD hS hA [1] rfl
    refine va_callv (va_runSN (As := [.ref pn, .int sz, .int n]) (rest := []) ⟨hx, hb, hml, hown, hts⟩ (c_SJ_write l D cI cZ tN tG H.size pn 64 fn sz n (by decide)) ⟨va_cnB 3 hts (gd k_139) rfl rfl rfl (hE.2 _ nm_2) (hts _ k_18) (by decide +kernel) ⟨Nat.le_of_ble_eq_true rfl, Nat.le_of_ble_eq_true rfl⟩, hts _ k_138, trivial⟩ ⟨MZ_blind, mz_pre hE hZ hS hPc hDc hFc⟩ rfl rfl hl.1 rfl (lv_room (Nat.le_of_ble_eq_true rfl)) d_Program_append_32 ⟨Nat.zero_le _, Nat.zero_le _⟩) hS (fun q _ h => hFc q h) hFc (fun u t H1 locs ht hvm hw hB hz1 hk1 hS => ?_)
    obtain ⟨hP1, hD1⟩ := hB
    rw [ht] at hP1
    subst hw
    obtain ⟨hP, hD⟩ := va_join (wr := [(pr, .inr (1, [.int kd, .int sz, .int ac, .ref po, .ref pn])), (po, .inl (cI, 64, .inl (wr fo 64 sz op)))]) (w1 := [(pn, .inl (cI, 64, .inl (wr fn 64 sz n)))]) hP hD [1] [0, 2] rfl rfl (by decide) (by decide) hk1 hFc hP1 hD1
    generalize H1 = H at hP hS ⊢
    have hP : va_P D classes [(pr, .inr (1, [.int kd, .int sz, .int ac, .ref po, .ref pn])), (po, .inl (cI, 64, .inl (wr fo 64 sz op))), (pn, .inl (cI, 64, .inl (wr fn 64 sz n)))] H := hP
    have hD : va_D A [(pr, .inr (1, [.int kd, .int sz, .int ac, .ref po, .ref pn])), (po, .inl (cI, 64, .inl (wr fo 64 sz op))), (pn, .inl (cI, 64, .inl (wr fn 64 sz n)))] := hD
    refine lv_aload_n hx hb d_Program_append_35 rfl (lv_at hl 0 rfl) ?_
    refine lv_dup hx hb d_Program_append_36 rfl ?_
    refine va_get (D := D) (ci := 1) (v := .int sz) (C := R_Program) (T := F_Program) (N := 5) hx hb hts in_Program hown hE.1 hP 0 rfl rfl 1 (by decide) (hts _ k_42) (fun _ h9 => h9) rfl d_Program_append_37 ?_
    refine lv_iconst (v := 1) hx hb d_Program_append_40 (by decide) ?_
    refine lv_iadd hx hb d_Program_append_41 ?_
    refine va_put (D := D) (ci := 1) (v := .int (sz + 1)) (ty := .int) (C := R_Program) (T := F_Program) (N := 5) hx hb hts in_Program t_Program t_Program_ok n_Program hown hE.1 hP hD hS 0 rfl rfl 1 (by decide) (hts _ k_42) (fun _ h9 => h9) rfl (by decide +kernel) rfl rfl (Nat.le_of_ble_eq_true rfl) d_Program_append_42 (fun H locs hP hD hS => ?_)
    have hP : va_P D classes [(pr, .inr (1, [.int kd, .int (sz + 1), .int ac, .ref po, .ref pn])), (po, .inl (cI, 64, .inl (wr fo 64 sz op))), (pn, .inl (cI, 64, .inl (wr fn 64 sz n)))] H := hP
    have hD : va_D A [(pr, .inr (1, [.int kd, .int (sz + 1), .int ac, .ref po, .ref pn])), (po, .inl (cI, 64, .inl (wr fo 64 sz op))), (pn, .inl (cI, 64, .inl (wr fn 64 sz n)))] := hD
    refine lv_iconst (v := 1) hx hb d_Program_append_45 (by decide) ?_
    refine W.zret hx hb hr (by decide) (fun t ht hW => ⟨⟨1, ((wr fo 64 sz op), (wr fn 64 sz n), (sz + 1)), rfl, ?_, ?_⟩, hS.F ht⟩) hS.2.2 d_Program_append_46
    · first | (simp only [p_app, h1, if_true, if_false, eq_self, not_true_eq_false, not_false_eq_true, ne_eq]; done) | (simp only [p_app, h1, if_true, if_false, eq_self, not_true_eq_false, not_false_eq_true, ne_eq]; rfl) | (simp [p_app, h1]; done)
    · exact ⟨by rw [ht]; exact hP.sub [0, 1, 2] rfl, hD.sub [0, 1, 2] (by decide) rfl⟩
  · -- ¬ sz < 64
    refine lv_iconst (v := 0) hx hb d_Program_append_9 (by decide) ?_
    refine W.zret hx hb hr (by decide) (fun t ht hW => ⟨⟨0, (fo, fn, sz), rfl, ?_, ?_⟩, hS.F ht⟩) hS.2.2 d_Program_append_10
    · first | (simp only [p_app, h1, if_true, if_false, eq_self, not_true_eq_false, not_false_eq_true, ne_eq]; done) | (simp only [p_app, h1, if_true, if_false, eq_self, not_true_eq_false, not_false_eq_true, ne_eq]; rfl) | (simp [p_app, h1]; done)
    · exact ⟨by rw [ht]; exact hP.sub [0, 1, 2] rfl, hD.sub [0, 1, 2] (by decide) rfl⟩
set_option maxHeartbeats 4000000 in
set_option maxRecDepth 100000 in
theorem c_Program_keepFirst (l : Launch) (D : va_G) (cI cZ : ClassId) (tN tG : Nat) (hz : Nat) (pr po pn : Nat) (kd sz ac : Int32) (fo fn : Nat → Int32) (k : Int32) : Met l y_Program_keepFirst w_Program_keepFirst (rmk 0) (va_Pc [.ref pr, .int k] (MZ D cI cZ tN tG [(pr, .inr (1, [.int kd, .int sz, .int ac, .ref po, .ref pn])), (po, .inl (cI, 64, .inl fo)), (pn, .inl (cI, 64, .inl fn))] hz)) (va_Qv (fun _ : Unit => True) (fun u t => ME D (va_A [(pr, .inr (1, [.int kd, .int sz, .int ac, .ref po, .ref pn])), (po, .inl (cI, 64, .inl fo)), (pn, .inl (cI, 64, .inl fn))] hz) [(pr, .inr (1, [.int kd, .int k, .int ac, .ref po, .ref pn])), (po, .inl (cI, 64, .inl fo)), (pn, .inl (cI, 64, .inl fn))] t) (va_A [(pr, .inr (1, [.int kd, .int sz, .int ac, .ref po, .ref pn])), (po, .inl (cI, 64, .inl fo)), (pn, .inl (cI, 64, .inl fn))] hz)) 0 0 (va_A [(pr, .inr (1, [.int kd, .int sz, .int ac, .ref po, .ref pn])), (po, .inl (cI, 64, .inl fo)), (pn, .inl (cI, 64, .inl fn))] hz) := by
  refine Met.ofW (cc := b_Program_keepFirst) (maxL := 2) (ret := none) (by decide) rfl ?_
  intro p e s m args below meth c s₁ B hml hv
  obtain ⟨rfl, hsz, hP, hE, hD0, hZ⟩ := hv
  have hx := B.exec
  have hb := B.bytes
  have hr := B.returns
  have hts : ∀ w ∈ gW, w.before _ s = true := fun w h => atoms_spec (ws := w_Program_keepFirst) B.pre w (List.mem_cons_of_mem _ h)
  have hown : s.vm.findClass R_Program = some m.cls := findClass_of_methodNamed B.named
  have hlocks := B.notSynchronized
  subst hsz
  have hD := hD0.self (sz := s.heap.size)
  have hA : ∀ q : Nat, s.heap.size ≤ q → va_A [(pr, .inr (1, [.int kd, .int sz, .int ac, .ref po, .ref pn])), (po, .inl (cI, 64, .inl fo)), (pn, .inl (cI, 64, .inl fn))] s.heap.size q := fun q h => Or.inr h
  generalize va_A [(pr, .inr (1, [.int kd, .int sz, .int ac, .ref po, .ref pn])), (po, .inl (cI, 64, .inl fo)), (pn, .inl (cI, 64, .inl fn))] s.heap.size = A at hD hA hZ ⊢
  have hS : va_S A s.heap s.heap [] := va_S.rf
  have hP : va_P D classes [(pr, .inr (1, [.int kd, .int sz, .int ac, .ref po, .ref pn])), (po, .inl (cI, 64, .inl fo)), (pn, .inl (cI, 64, .inl fn))] s.heap := hP
  have hD : va_D A [(pr, .inr (1, [.int kd, .int sz, .int ac, .ref po, .ref pn])), (po, .inl (cI, 64, .inl fo)), (pn, .inl (cI, 64, .inl fn))] := hD
  have hl := lv_entry ([.ref pr, .int k]) (n := 2) (Nat.le_of_ble_eq_true rfl)
  rw [lg_entry_eq]
  generalize (lg_sl ([.ref pr, .int k]) ++ List.replicate (2 - (lg_sl ([.ref pr, .int k])).length) Slot.unset).toArray = ls at hl ⊢
  have hl : lv_has ls 2 [(0, .ref pr), (1, .int k)] := hl
  refine lv_aload_n hx hb d_Program_keepFirst_0 rfl (lv_at hl 0 rfl) ?_
  refine lv_iload_n hx hb d_Program_keepFirst_1 rfl (lv_at hl 1 rfl) ?_
  refine va_put (D := D) (ci := 1) (v := .int k) (ty := .int) (C := R_Program) (T := F_Program) (N := 5) hx hb hts in_Program t_Program t_Program_ok n_Program hown hE.1 hP hD hS 0 rfl rfl 1 (by decide) (hts _ k_42) (fun _ h9 => h9) rfl (by decide +kernel) rfl rfl (Nat.le_of_ble_eq_true rfl) d_Program_keepFirst_2 (fun H locs hP hD hS => ?_)
  have hP : va_P D classes [(pr, .inr (1, [.int kd, .int k, .int ac, .ref po, .ref pn])), (po, .inl (cI, 64, .inl fo)), (pn, .inl (cI, 64, .inl fn))] H := hP
  have hD : va_D A [(pr, .inr (1, [.int kd, .int k, .int ac, .ref po, .ref pn])), (po, .inl (cI, 64, .inl fo)), (pn, .inl (cI, 64, .inl fn))] := hD
  refine W.vret hx hb hr (fun t ht hW => ⟨⟨(), rfl, ?_, ?_⟩, hS.F ht⟩) hS.2.2 d_Program_keepFirst_5
  · trivial
  · exact ⟨by rw [ht]; exact hP.sub [0, 1, 2] rfl, hD.sub [0, 1, 2] (by decide) rfl⟩
set_option maxHeartbeats 4000000 in
set_option maxRecDepth 100000 in
theorem c_SJ_code (l : Launch) (D : va_G) (cI cZ : ClassId) (tN tG : Nat) (hz : Nat) (xx wy mc : Nat) (pr po pn : Nat) (kd sz ac : Int32) (fo fn : Nat → Int32) (op n : Int32) : Met l y_SJ_code w_SJ_code (rmk 2) (va_Pc [.ref xx, .int op, .int n] (MZ D cI cZ tN tG [(xx, .inr (0, [.ref pr, .ref wy, .ref mc])), (pr, .inr (1, [.int kd, .int sz, .int ac, .ref po, .ref pn])), (po, .inl (cI, 64, .inl fo)), (pn, .inl (cI, 64, .inl fn))] hz)) (va_Qi (fun (r : Int32) (u : (Nat → Int32) × (Nat → Int32) × Int32) => r = (if (p_app op n (fo, fn, sz)).1 = 0 then -3 else (p_app op n (fo, fn, sz)).2.2.2 - 1) ∧ u = (p_app op n (fo, fn, sz)).2) (fun u t => ME D (va_A [(xx, .inr (0, [.ref pr, .ref wy, .ref mc])), (pr, .inr (1, [.int kd, .int sz, .int ac, .ref po, .ref pn])), (po, .inl (cI, 64, .inl fo)), (pn, .inl (cI, 64, .inl fn))] hz) [(xx, .inr (0, [.ref pr, .ref wy, .ref mc])), (pr, .inr (1, [.int kd, .int u.2.2, .int ac, .ref po, .ref pn])), (po, .inl (cI, 64, .inl u.1)), (pn, .inl (cI, 64, .inl u.2.1))] t) (va_A [(xx, .inr (0, [.ref pr, .ref wy, .ref mc])), (pr, .inr (1, [.int kd, .int sz, .int ac, .ref po, .ref pn])), (po, .inl (cI, 64, .inl fo)), (pn, .inl (cI, 64, .inl fn))] hz)) 0 0 (va_A [(xx, .inr (0, [.ref pr, .ref wy, .ref mc])), (pr, .inr (1, [.int kd, .int sz, .int ac, .ref po, .ref pn])), (po, .inl (cI, 64, .inl fo)), (pn, .inl (cI, 64, .inl fn))] hz) := by
  refine Met.ofW (cc := b_SJ_code) (maxL := 3) (ret := (some .int)) (by decide) rfl ?_
  intro p e s m args below meth c s₁ B hml hv
  obtain ⟨rfl, hsz, hP, hE, hD0, hZ⟩ := hv
  have hx := B.exec
  have hb := B.bytes
  have hr := B.returns
  have hts : ∀ w ∈ gW, w.before _ s = true := fun w h => atoms_spec (ws := w_SJ_code) B.pre w (List.mem_cons_of_mem _ h)
  have hown : s.vm.findClass R_SJ = some m.cls := findClass_of_methodNamed B.named
  have hlocks := B.notSynchronized
  subst hsz
  have hD := hD0.self (sz := s.heap.size)
  have hA : ∀ q : Nat, s.heap.size ≤ q → va_A [(xx, .inr (0, [.ref pr, .ref wy, .ref mc])), (pr, .inr (1, [.int kd, .int sz, .int ac, .ref po, .ref pn])), (po, .inl (cI, 64, .inl fo)), (pn, .inl (cI, 64, .inl fn))] s.heap.size q := fun q h => Or.inr h
  generalize va_A [(xx, .inr (0, [.ref pr, .ref wy, .ref mc])), (pr, .inr (1, [.int kd, .int sz, .int ac, .ref po, .ref pn])), (po, .inl (cI, 64, .inl fo)), (pn, .inl (cI, 64, .inl fn))] s.heap.size = A at hD hA hZ ⊢
  have hS : va_S A s.heap s.heap [] := va_S.rf
  have hP : va_P D classes [(xx, .inr (0, [.ref pr, .ref wy, .ref mc])), (pr, .inr (1, [.int kd, .int sz, .int ac, .ref po, .ref pn])), (po, .inl (cI, 64, .inl fo)), (pn, .inl (cI, 64, .inl fn))] s.heap := hP
  have hD : va_D A [(xx, .inr (0, [.ref pr, .ref wy, .ref mc])), (pr, .inr (1, [.int kd, .int sz, .int ac, .ref po, .ref pn])), (po, .inl (cI, 64, .inl fo)), (pn, .inl (cI, 64, .inl fn))] := hD
  have hl := lv_entry ([.ref xx, .int op, .int n]) (n := 3) (Nat.le_of_ble_eq_true rfl)
  rw [lg_entry_eq]
  generalize (lg_sl ([.ref xx, .int op, .int n]) ++ List.replicate (3 - (lg_sl ([.ref xx, .int op, .int n])).length) Slot.unset).toArray = ls at hl ⊢
  have hl : lv_has ls 3 [(0, .ref xx), (1, .int op), (2, .int n)] := hl
  refine lv_aload_n hx hb d_SJ_code_0 rfl (lv_at hl 0 rfl) ?_
  refine va_get (D := D) (ci := 0) (v := .ref pr) (C := R_SJ) (T := F_SJ) (N := 3) hx hb hts in_SJ hown hE.1 hP 0 rfl rfl 0 (by decide) (hts _ k_119) (fun _ h9 => h9) rfl d_SJ_code_1 ?_
  refine lv_iload_n hx hb d_SJ_code_4 rfl (lv_at hl 1 rfl) ?_
  refine lv_iload_n hx hb d_SJ_code_5 rfl (lv_at hl 2 rfl) ?_
  have hPc := hP.sub (ws' := [(pr, .inr (1, [.int kd, .int sz, .int ac, .ref po, .ref pn])), (po, .inl (cI, 64, .inl fo)), (pn, .inl (cI, 64, .inl fn))]) [1, 2, 3] rfl
  have hDc := hD.sub (ws' := [(pr, .inr (1, [.int kd, .int sz, .int ac, .ref po, .ref pn])), (po, .inl (cI, 64, .inl fo)), (pn, .inl (cI, 64, .inl fn))]) [1, 2, 3] (by decide) rfl
  have hFc := va_free (wc := [(pr, .inr (1, [.int kd, .int sz, .int ac, .ref po, .ref pn])), (po, .inl (cI, 64, .inl fo)), (pn, .inl (cI, 64, .inl fn))]) hD hS hA [1, 2, 3] rfl
  refine va_calli (va_runV (As := [.int op, .int n]) (rest := []) ⟨hx, hb, hml, hown, hts⟩ (c_Program_append l D cI cZ tN tG s.heap.size pr po pn kd sz ac fo fn op n) (cwV 2 hts (gd4 k_133 k_134 k_135 k_19 k_136) rfl rfl rfl (by decide +kernel) ⟨Nat.le_of_ble_eq_true rfl, Nat.le_of_ble_eq_true rfl⟩) ⟨MZ_blind, va_recv (q0 := 1) (ci := 1) hE.1 hP rfl rfl, mz_pre hE hZ hS hPc hDc hFc⟩ rfl rfl hl.1 rfl (lv_room (Nat.le_of_ble_eq_true rfl)) d_SJ_code_6 ⟨Nat.zero_le _, Nat.zero_le _⟩) hS (fun q _ h => hFc q h) hFc (fun r u t H1 locs ht hvm hw hB hz1 hk1 hS => ?_)
  obtain ⟨hP1, hD1⟩ := hB
  rw [ht] at hP1
  have hr1 := congrArg Prod.fst hw
  have hu1 := congrArg Prod.snd hw
  dsimp only at hr1 hu1
  subst hr1
  subst hu1
  obtain ⟨hP, hD⟩ := va_join (wr := [(xx, .inr (0, [.ref pr, .ref wy, .ref mc]))]) (w1 := [(pr, .inr (1, [.int kd, .int ((p_app op n (fo, fn, sz)).2.2.2), .int ac, .ref po, .ref pn])), (po, .inl (cI, 64, .inl ((p_app op n (fo, fn, sz)).2.1))), (pn, .inl (cI, 64, .inl ((p_app op n (fo, fn, sz)).2.2.1)))]) hP hD [1, 2, 3] [0] rfl rfl (by decide) (by decide) hk1 hFc hP1 hD1
  generalize H1 = H at hP hS ⊢
  have hP : va_P D classes [(xx, .inr (0, [.ref pr, .ref wy, .ref mc])), (pr, .inr (1, [.int kd, .int ((p_app op n (fo, fn, sz)).2.2.2), .int ac, .ref po, .ref pn])), (po, .inl (cI, 64, .inl ((p_app op n (fo, fn, sz)).2.1))), (pn, .inl (cI, 64, .inl ((p_app op n (fo, fn, sz)).2.2.1)))] H := hP
  have hD : va_D A [(xx, .inr (0, [.ref pr, .ref wy, .ref mc])), (pr, .inr (1, [.int kd, .int ((p_app op n (fo, fn, sz)).2.2.2), .int ac, .ref po, .ref pn])), (po, .inl (cI, 64, .inl ((p_app op n (fo, fn, sz)).2.1))), (pn, .inl (cI, 64, .inl ((p_app op n (fo, fn, sz)).2.2.1)))] := hD
  refine lv_if_eq (tgt := 24) hx hb d_SJ_code_9 (by decide) (fun h1 => ?_) (fun h1 => ?_)
  · -- (p_app op n (fo, fn, sz)).1 = 0
    refine lv_bipush (v := (-3)) hx hb d_SJ_code_24 (by decide) ?_
    refine W.iret hx hb hr (fun t ht hW => ⟨⟨(-3), (p_app op n (fo, fn, sz)).2, rfl, ?_, ?_⟩, hS.F ht⟩) hS.2.2 d_SJ_code_26
    · exact ⟨by simp only [h1, if_true, if_false, eq_self, not_true_eq_false, not_false_eq_true, ne_eq], rfl⟩
    · exact ⟨by rw [ht]; exact hP.sub [0, 1, 2, 3] rfl, hD.sub [0, 1, 2, 3] (by decide) rfl⟩
  · -- ¬ (p_app op n (fo, fn, sz)).1 = 0
    refine lv_aload_n hx hb d_SJ_code_12 rfl (lv_at hl 0 rfl) ?_
    refine va_get (D := D) (ci := 0) (v := .ref pr) (C := R_SJ) (T := F_SJ) (N := 3) hx hb hts in_SJ hown hE.1 hP 0 rfl rfl 0 (by decide) (hts _ k_119) (fun _ h9 => h9) rfl d_SJ_code_13 ?_
    refine va_get (D := D) (ci := 1) (v := .int ((p_app op n (fo, fn, sz)).2.2.2)) (C := R_Program) (T := F_Program) (N := 5) hx hb hts in_Program hown hE.1 hP 1 rfl rfl 1 (by decide) (hts _ k_43) (fun _ h9 => h9) rfl d_SJ_code_16 ?_
    refine lv_iconst (v := 1) hx hb d_SJ_code_19 (by decide) ?_
    refine lv_isub hx hb d_SJ_code_20 ?_
    refine lv_goto (tgt := 26) hx hb d_SJ_code_21 (by decide) ?_
    refine W.iret hx hb hr (fun t ht hW => ⟨⟨((p_app op n (fo, fn, sz)).2.2.2 - 1), (p_app op n (fo, fn, sz)).2, rfl, ?_, ?_⟩, hS.F ht⟩) hS.2.2 d_SJ_code_26
    · exact ⟨by simp only [h1, if_true, if_false, eq_self, not_true_eq_false, not_false_eq_true, ne_eq], rfl⟩
    · exact ⟨by rw [ht]; exact hP.sub [0, 1, 2, 3] rfl, hD.sub [0, 1, 2, 3] (by decide) rfl⟩
set_option maxHeartbeats 4000000 in
set_option maxRecDepth 100000 in
theorem c_SJ_clear (l : Launch) (D : va_G) (cI cZ : ClassId) (tN tG : Nat) (hz : Nat) (xx wy mc : Nat) (pr po pn : Nat) (kd sz ac : Int32) (fo fn : Nat → Int32) : Met l y_SJ_clear w_SJ_clear (rmk 1) (va_Pc [.ref xx] (MZ D cI cZ tN tG [(xx, .inr (0, [.ref pr, .ref wy, .ref mc])), (pr, .inr (1, [.int kd, .int sz, .int ac, .ref po, .ref pn])), (po, .inl (cI, 64, .inl fo)), (pn, .inl (cI, 64, .inl fn))] hz)) (va_Qi (fun (r : Int32) (_ : Unit) => r = sz) (fun u t => ME D (va_A [(xx, .inr (0, [.ref pr, .ref wy, .ref mc])), (pr, .inr (1, [.int kd, .int sz, .int ac, .ref po, .ref pn])), (po, .inl (cI, 64, .inl fo)), (pn, .inl (cI, 64, .inl fn))] hz) [(xx, .inr (0, [.ref pr, .ref wy, .ref mc])), (pr, .inr (1, [.int kd, .int 0, .int ac, .ref po, .ref pn])), (po, .inl (cI, 64, .inl fo)), (pn, .inl (cI, 64, .inl fn))] t) (va_A [(xx, .inr (0, [.ref pr, .ref wy, .ref mc])), (pr, .inr (1, [.int kd, .int sz, .int ac, .ref po, .ref pn])), (po, .inl (cI, 64, .inl fo)), (pn, .inl (cI, 64, .inl fn))] hz)) 0 0 (va_A [(xx, .inr (0, [.ref pr, .ref wy, .ref mc])), (pr, .inr (1, [.int kd, .int sz, .int ac, .ref po, .ref pn])), (po, .inl (cI, 64, .inl fo)), (pn, .inl (cI, 64, .inl fn))] hz) := by
  refine Met.ofW (cc := b_SJ_clear) (maxL := 2) (ret := (some .int)) (by decide) rfl ?_
  intro p e s m args below meth c s₁ B hml hv
  obtain ⟨rfl, hsz, hP, hE, hD0, hZ⟩ := hv
  have hx := B.exec
  have hb := B.bytes
  have hr := B.returns
  have hts : ∀ w ∈ gW, w.before _ s = true := fun w h => atoms_spec (ws := w_SJ_clear) B.pre w (List.mem_cons_of_mem _ h)
  have hown : s.vm.findClass R_SJ = some m.cls := findClass_of_methodNamed B.named
  have hlocks := B.notSynchronized
  subst hsz
  have hD := hD0.self (sz := s.heap.size)
  have hA : ∀ q : Nat, s.heap.size ≤ q → va_A [(xx, .inr (0, [.ref pr, .ref wy, .ref mc])), (pr, .inr (1, [.int kd, .int sz, .int ac, .ref po, .ref pn])), (po, .inl (cI, 64, .inl fo)), (pn, .inl (cI, 64, .inl fn))] s.heap.size q := fun q h => Or.inr h
  generalize va_A [(xx, .inr (0, [.ref pr, .ref wy, .ref mc])), (pr, .inr (1, [.int kd, .int sz, .int ac, .ref po, .ref pn])), (po, .inl (cI, 64, .inl fo)), (pn, .inl (cI, 64, .inl fn))] s.heap.size = A at hD hA hZ ⊢
  have hS : va_S A s.heap s.heap [] := va_S.rf
  have hP : va_P D classes [(xx, .inr (0, [.ref pr, .ref wy, .ref mc])), (pr, .inr (1, [.int kd, .int sz, .int ac, .ref po, .ref pn])), (po, .inl (cI, 64, .inl fo)), (pn, .inl (cI, 64, .inl fn))] s.heap := hP
  have hD : va_D A [(xx, .inr (0, [.ref pr, .ref wy, .ref mc])), (pr, .inr (1, [.int kd, .int sz, .int ac, .ref po, .ref pn])), (po, .inl (cI, 64, .inl fo)), (pn, .inl (cI, 64, .inl fn))] := hD
  have hl := lv_entry ([.ref xx]) (n := 2) (Nat.le_of_ble_eq_true rfl)
  rw [lg_entry_eq]
  generalize (lg_sl ([.ref xx]) ++ List.replicate (2 - (lg_sl ([.ref xx])).length) Slot.unset).toArray = ls at hl ⊢
  have hl : lv_has ls 2 [(0, .ref xx)] := hl
  refine lv_aload_n hx hb d_SJ_clear_0 rfl (lv_at hl 0 rfl) ?_
  refine va_get (D := D) (ci := 0) (v := .ref pr) (C := R_SJ) (T := F_SJ) (N := 3) hx hb hts in_SJ hown hE.1 hP 0 rfl rfl 0 (by decide) (hts _ k_119) (fun _ h9 => h9) rfl d_SJ_clear_1 ?_
  refine va_get (D := D) (ci := 1) (v := .int sz) (C := R_Program) (T := F_Program) (N := 5) hx hb hts in_Program hown hE.1 hP 1 rfl rfl 1 (by decide) (hts _ k_43) (fun _ h9 => h9) rfl d_SJ_clear_4 ?_
  refine lv_istore_n hx hb d_SJ_clear_7 rfl hl (by decide) rfl (fun ls hl => ?_)
  have hl : lv_has ls 2 [(1, .int sz), (0, .ref xx)] := hl
  refine lv_aload_n hx hb d_SJ_clear_8 rfl (lv_at hl 1 rfl) ?_
  refine va_get (D := D) (ci := 0) (v := .ref pr) (C := R_SJ) (T := F_SJ) (N := 3) hx hb hts in_SJ hown hE.1 hP 0 rfl rfl 0 (by decide) (hts _ k_119) (fun _ h9 => h9) rfl d_SJ_clear_9 ?_
  refine lv_iconst (v := 0) hx hb d_SJ_clear_12 (by decide) ?_
  have hPc := hP.sub (ws' := [(pr, .inr (1, [.int kd, .int sz, .int ac, .ref po, .ref pn])), (po, .inl (cI, 64, .inl fo)), (pn, .inl (cI, 64, .inl fn))]) [1, 2, 3] rfl
  have hDc := hD.sub (ws' := [(pr, .inr (1, [.int kd, .int sz, .int ac, .ref po, .ref pn])), (po, .inl (cI, 64, .inl fo)), (pn, .inl (cI, 64, .inl fn))]) [1, 2, 3] (by decide) rfl
  have hFc := va_free (wc := [(pr, .inr (1, [.int kd, .int sz, .int ac, .ref po, .ref pn])), (po, .inl (cI, 64, .inl fo)), (pn, .inl (cI, 64, .inl fn))]) hD hS hA [1, 2, 3] rfl
  refine va_callv (va_runV (As := [.int 0]) (rest := []) ⟨hx, hb, hml, hown, hts⟩ (c_Program_keepFirst l D cI cZ tN tG s.heap.size pr po pn kd sz ac fo fn 0) (cwV 1 hts (gd4 k_144 k_145 k_146 k_19 k_147) rfl rfl rfl (by decide +kernel) ⟨Nat.le_of_ble_eq_true rfl, Nat.le_of_ble_eq_true rfl⟩) ⟨MZ_blind, va_recv (q0 := 1) (ci := 1) hE.1 hP rfl rfl, mz_pre hE hZ hS hPc hDc hFc⟩ rfl rfl hl.1 rfl (lv_room (Nat.le_of_ble_eq_true rfl)) d_SJ_clear_13 ⟨Nat.zero_le _, Nat.zero_le _⟩) hS (fun q _ h => hFc q h) hFc (fun u t H1 locs ht hvm hw hB hz1 hk1 hS => ?_)
  obtain ⟨hP1, hD1⟩ := hB
  rw [ht] at hP1
  obtain ⟨hP, hD⟩ := va_join (wr := [(xx, .inr (0, [.ref pr, .ref wy, .ref mc]))]) (w1 := [(pr, .inr (1, [.int kd, .int 0, .int ac, .ref po, .ref pn])), (po, .inl (cI, 64, .inl fo)), (pn, .inl (cI, 64, .inl fn))]) hP hD [1, 2, 3] [0] rfl rfl (by decide) (by decide) hk1 hFc hP1 hD1
  generalize H1 = H at hP hS ⊢
  have hP : va_P D classes [(xx, .inr (0, [.ref pr, .ref wy, .ref mc])), (pr, .inr (1, [.int kd, .int 0, .int ac, .ref po, .ref pn])), (po, .inl (cI, 64, .inl fo)), (pn, .inl (cI, 64, .inl fn))] H := hP
  have hD : va_D A [(xx, .inr (0, [.ref pr, .ref wy, .ref mc])), (pr, .inr (1, [.int kd, .int 0, .int ac, .ref po, .ref pn])), (po, .inl (cI, 64, .inl fo)), (pn, .inl (cI, 64, .inl fn))] := hD
  refine lv_iload_n hx hb d_SJ_clear_16 rfl (lv_at hl 0 rfl) ?_
  refine W.iret hx hb hr (fun t ht hW => ⟨⟨sz, (), rfl, ?_, ?_⟩, hS.F ht⟩) hS.2.2 d_SJ_clear_17
  · rfl
  · exact ⟨by rw [ht]; exact hP.sub [0, 1, 2, 3] rfl, hD.sub [0, 1, 2, 3] (by decide) rfl⟩
set_option maxHeartbeats 4000000 in
set_option maxRecDepth 100000 in
theorem c_SJ_drop (l : Launch) (D : va_G) (cI cZ : ClassId) (tN tG : Nat) (hz : Nat) (xx wy mc : Nat) (pr po pn : Nat) (kd sz ac : Int32) (fo fn : Nat → Int32) : Met l y_SJ_drop w_SJ_drop (rmk 1) (va_Pc [.ref xx] (MZ D cI cZ tN tG [(xx, .inr (0, [.ref pr, .ref wy, .ref mc])), (pr, .inr (1, [.int kd, .int sz, .int ac, .ref po, .ref pn])), (po, .inl (cI, 64, .inl fo)), (pn, .inl (cI, 64, .inl fn))] hz)) (va_Qi (fun (r : Int32) (u : Int32) => (r, u) = if sz = 0 then (-2, sz) else (sz - 1, sz - 1)) (fun u t => ME D (va_A [(xx, .inr (0, [.ref pr, .ref wy, .ref mc])), (pr, .inr (1, [.int kd, .int sz, .int ac, .ref po, .ref pn])), (po, .inl (cI, 64, .inl fo)), (pn, .inl (cI, 64, .inl fn))] hz) [(xx, .inr (0, [.ref pr, .ref wy, .ref mc])), (pr, .inr (1, [.int kd, .int u, .int ac, .ref po, .ref pn])), (po, .inl (cI, 64, .inl fo)), (pn, .inl (cI, 64, .inl fn))] t) (va_A [(xx, .inr (0, [.ref pr, .ref wy, .ref mc])), (pr, .inr (1, [.int kd, .int sz, .int ac, .ref po, .ref pn])), (po, .inl (cI, 64, .inl fo)), (pn, .inl (cI, 64, .inl fn))] hz)) 0 0 (va_A [(xx, .inr (0, [.ref pr, .ref wy, .ref mc])), (pr, .inr (1, [.int kd, .int sz, .int ac, .ref po, .ref pn])), (po, .inl (cI, 64, .inl fo)), (pn, .inl (cI, 64, .inl fn))] hz) := by
  refine Met.ofW (cc := b_SJ_drop) (maxL := 1) (ret := (some .int)) (by decide) rfl ?_
  intro p e s m args below meth c s₁ B hml hv
  obtain ⟨rfl, hsz, hP, hE, hD0, hZ⟩ := hv
  have hx := B.exec
  have hb := B.bytes
  have hr := B.returns
  have hts : ∀ w ∈ gW, w.before _ s = true := fun w h => atoms_spec (ws := w_SJ_drop) B.pre w (List.mem_cons_of_mem _ h)
  have hown : s.vm.findClass R_SJ = some m.cls := findClass_of_methodNamed B.named
  have hlocks := B.notSynchronized
  subst hsz
  have hD := hD0.self (sz := s.heap.size)
  have hA : ∀ q : Nat, s.heap.size ≤ q → va_A [(xx, .inr (0, [.ref pr, .ref wy, .ref mc])), (pr, .inr (1, [.int kd, .int sz, .int ac, .ref po, .ref pn])), (po, .inl (cI, 64, .inl fo)), (pn, .inl (cI, 64, .inl fn))] s.heap.size q := fun q h => Or.inr h
  generalize va_A [(xx, .inr (0, [.ref pr, .ref wy, .ref mc])), (pr, .inr (1, [.int kd, .int sz, .int ac, .ref po, .ref pn])), (po, .inl (cI, 64, .inl fo)), (pn, .inl (cI, 64, .inl fn))] s.heap.size = A at hD hA hZ ⊢
  have hS : va_S A s.heap s.heap [] := va_S.rf
  have hP : va_P D classes [(xx, .inr (0, [.ref pr, .ref wy, .ref mc])), (pr, .inr (1, [.int kd, .int sz, .int ac, .ref po, .ref pn])), (po, .inl (cI, 64, .inl fo)), (pn, .inl (cI, 64, .inl fn))] s.heap := hP
  have hD : va_D A [(xx, .inr (0, [.ref pr, .ref wy, .ref mc])), (pr, .inr (1, [.int kd, .int sz, .int ac, .ref po, .ref pn])), (po, .inl (cI, 64, .inl fo)), (pn, .inl (cI, 64, .inl fn))] := hD
  have hl := lv_entry ([.ref xx]) (n := 1) (Nat.le_of_ble_eq_true rfl)
  rw [lg_entry_eq]
  generalize (lg_sl ([.ref xx]) ++ List.replicate (1 - (lg_sl ([.ref xx])).length) Slot.unset).toArray = ls at hl ⊢
  have hl : lv_has ls 1 [(0, .ref xx)] := hl
  refine lv_aload_n hx hb d_SJ_drop_0 rfl (lv_at hl 0 rfl) ?_
  refine va_get (D := D) (ci := 0) (v := .ref pr) (C := R_SJ) (T := F_SJ) (N := 3) hx hb hts in_SJ hown hE.1 hP 0 rfl rfl 0 (by decide) (hts _ k_119) (fun _ h9 => h9) rfl d_SJ_drop_1 ?_
  refine va_get (D := D) (ci := 1) (v := .int sz) (C := R_Program) (T := F_Program) (N := 5) hx hb hts in_Program hown hE.1 hP 1 rfl rfl 1 (by decide) (hts _ k_43) (fun _ h9 => h9) rfl d_SJ_drop_4 ?_
  refine lv_if_ne (tgt := 13) hx hb d_SJ_drop_7 (by decide) (fun h1 => ?_) (fun h1 => ?_)
  · -- ¬ sz = 0
    refine lv_aload_n hx hb d_SJ_drop_13 rfl (lv_at hl 0 rfl) ?_
    refine va_get (D := D) (ci := 0) (v := .ref pr) (C := R_SJ) (T := F_SJ) (N := 3) hx hb hts in_SJ hown hE.1 hP 0 rfl rfl 0 (by decide) (hts _ k_119) (fun _ h9 => h9) rfl d_SJ_drop_14 ?_
    refine lv_aload_n hx hb d_SJ_drop_17 rfl (lv_at hl 0 rfl) ?_
    refine va_get (D := D) (ci := 0) (v := .ref pr) (C := R_SJ) (T := F_SJ) (N := 3) hx hb hts in_SJ hown hE.1 hP 0 rfl rfl 0 (by decide) (hts _ k_119) (fun _ h9 => h9) rfl d_SJ_drop_18 ?_
    refine va_get (D := D) (ci := 1) (v := .int sz) (C := R_Program) (T := F_Program) (N := 5) hx hb hts in_Program hown hE.1 hP 1 rfl rfl 1 (by decide) (hts _ k_43) (fun _ h9 => h9) rfl d_SJ_drop_21 ?_
    refine lv_iconst (v := 1) hx hb d_SJ_drop_24 (by decide) ?_
    refine lv_isub hx hb d_SJ_drop_25 ?_
    have hPc := hP.sub (ws' := [(pr, .inr (1, [.int kd, .int sz, .int ac, .ref po, .ref pn])), (po, .inl (cI, 64, .inl fo)), (pn, .inl (cI, 64, .inl fn))]) [1, 2, 3] rfl
    have hDc := hD.sub (ws' := [(pr, .inr (1, [.int kd, .int sz, .int ac, .ref po, .ref pn])), (po, .inl (cI, 64, .inl fo)), (pn, .inl (cI, 64, .inl fn))]) [1, 2, 3] (by decide) rfl
    have hFc := va_free (wc := [(pr, .inr (1, [.int kd, .int sz, .int ac, .ref po, .ref pn])), (po, .inl (cI, 64, .inl fo)), (pn, .inl (cI, 64, .inl fn))]) hD hS hA [1, 2, 3] rfl
    refine va_callv (va_runV (As := [.int (sz - 1)]) (rest := []) ⟨hx, hb, hml, hown, hts⟩ (c_Program_keepFirst l D cI cZ tN tG s.heap.size pr po pn kd sz ac fo fn (sz - 1)) (cwV 1 hts (gd4 k_144 k_145 k_146 k_19 k_147) rfl rfl rfl (by decide +kernel) ⟨Nat.le_of_ble_eq_true rfl, Nat.le_of_ble_eq_true rfl⟩) ⟨MZ_blind, va_recv (q0 := 1) (ci := 1) hE.1 hP rfl rfl, mz_pre hE hZ hS hPc hDc hFc⟩ rfl rfl hl.1 rfl (lv_room (Nat.le_of_ble_eq_true rfl)) d_SJ_drop_26 ⟨Nat.zero_le _, Nat.zero_le _⟩) hS (fun q _ h => hFc q h) hFc (fun u t H1 locs ht hvm hw hB hz1 hk1 hS => ?_)
    obtain ⟨hP1, hD1⟩ := hB
    rw [ht] at hP1
    obtain ⟨hP, hD⟩ := va_join (wr := [(xx, .inr (0, [.ref pr, .ref wy, .ref mc]))]) (w1 := [(pr, .inr (1, [.int kd, .int (sz - 1), .int ac, .ref po, .ref pn])), (po, .inl (cI, 64, .inl fo)), (pn, .inl (cI, 64, .inl fn))]) hP hD [1, 2, 3] [0] rfl rfl (by decide) (by decide) hk1 hFc hP1 hD1
    generalize H1 = H at hP hS ⊢
    have hP : va_P D classes [(xx, .inr (0, [.ref pr, .ref wy, .ref mc])), (pr, .inr (1, [.int kd, .int (sz - 1), .int ac, .ref po, .ref pn])), (po, .inl (cI, 64, .inl fo)), (pn, .inl (cI, 64, .inl fn))] H := hP
    have hD : va_D A [(xx, .inr (0, [.ref pr, .ref wy, .ref mc])), (pr, .inr (1, [.int kd, .int (sz - 1), .int ac, .ref po, .ref pn])), (po, .inl (cI, 64, .inl fo)), (pn, .inl (cI, 64, .inl fn))] := hD
    refine lv_aload_n hx hb d_SJ_drop_29 rfl (lv_at hl 0 rfl) ?_
    refine va_get (D := D) (ci := 0) (v := .ref pr) (C := R_SJ) (T := F_SJ) (N := 3) hx hb hts in_SJ hown hE.1 hP 0 rfl rfl 0 (by decide) (hts _ k_119) (fun _ h9 => h9) rfl d_SJ_drop_30 ?_
    refine va_get (D := D) (ci := 1) (v := .int (sz - 1)) (C := R_Program) (T := F_Program) (N := 5) hx hb hts in_Program hown hE.1 hP 1 rfl rfl 1 (by decide) (hts _ k_43) (fun _ h9 => h9) rfl d_SJ_drop_33 ?_
    refine W.iret hx hb hr (fun t ht hW => ⟨⟨(sz - 1), (sz - 1), rfl, ?_, ?_⟩, hS.F ht⟩) hS.2.2 d_SJ_drop_36
    · first | (simp only [h1, if_true, if_false, eq_self, not_true_eq_false, not_false_eq_true, ne_eq]; done) | (simp only [h1, if_true, if_false, eq_self, not_true_eq_false, not_false_eq_true, ne_eq]; rfl) | (simp [h1]; done)
    · exact ⟨by rw [ht]; exact hP.sub [0, 1, 2, 3] rfl, hD.sub [0, 1, 2, 3] (by decide) rfl⟩
  · -- sz = 0
    refine lv_bipush (v := (-2)) hx hb d_SJ_drop_10 (by decide) ?_
    refine W.iret hx hb hr (fun t ht hW => ⟨⟨(-2), sz, rfl, ?_, ?_⟩, hS.F ht⟩) hS.2.2 d_SJ_drop_12
    · first | (simp only [h1, if_true, if_false, eq_self, not_true_eq_false, not_false_eq_true, ne_eq]; done) | (simp only [h1, if_true, if_false, eq_self, not_true_eq_false, not_false_eq_true, ne_eq]; rfl) | (simp [h1]; done)
    · exact ⟨by rw [ht]; exact hP.sub [0, 1, 2, 3] rfl, hD.sub [0, 1, 2, 3] (by decide) rfl⟩
set_option maxHeartbeats 4000000 in
set_option maxRecDepth 100000 in
theorem c_SJ_check (l : Launch) (D : va_G) (cI cZ : ClassId) (tN tG : Nat) (hz : Nat) (xx wy mc : Nat) (pr po pn : Nat) (kd ac : Int32) (n : Nat) (fo fn : Nat → Int32) (re wa : Nat) (fr fw : Nat → Int32) (wc : Int32) (hn : n ≤ 64) : Met l y_SJ_check w_SJ_check (rmk 5) (va_Pc [.ref xx] (MZ D cI cZ tN tG [(xx, .inr (0, [.ref pr, .ref wy, .ref mc])), (pr, .inr (1, [.int kd, .int (nI n), .int ac, .ref po, .ref pn])), (po, .inl (cI, 64, .inl fo)), (pn, .inl (cI, 64, .inl fn)), (wy, .inr (2, [.ref re, .ref wa, .int wc])), (re, .inl (cI, 64, .inl fr)), (wa, .inl (cI, 576, .inl fw))] hz)) (va_Qi (fun (r : Int32) (u : WS) => r = j_chk kd ac n fo fn (fr, fw, wc) ∧ u = j_fol kd ac n fo fn (fr, fw, wc)) (fun u t => ME D (va_A [(xx, .inr (0, [.ref pr, .ref wy, .ref mc])), (pr, .inr (1, [.int kd, .int (nI n), .int ac, .ref po, .ref pn])), (po, .inl (cI, 64, .inl fo)), (pn, .inl (cI, 64, .inl fn)), (wy, .inr (2, [.ref re, .ref wa, .int wc])), (re, .inl (cI, 64, .inl fr)), (wa, .inl (cI, 576, .inl fw))] hz) [(xx, .inr (0, [.ref pr, .ref wy, .ref mc])), (pr, .inr (1, [.int kd, .int (nI n), .int ac, .ref po, .ref pn])), (po, .inl (cI, 64, .inl fo)), (pn, .inl (cI, 64, .inl fn)), (wy, .inr (2, [.ref re, .ref wa, .int u.2.2])), (re, .inl (cI, 64, .inl u.1)), (wa, .inl (cI, 576, .inl u.2.1))] t) (va_A [(xx, .inr (0, [.ref pr, .ref wy, .ref mc])), (pr, .inr (1, [.int kd, .int (nI n), .int ac, .ref po, .ref pn])), (po, .inl (cI, 64, .inl fo)), (pn, .inl (cI, 64, .inl fn)), (wy, .inr (2, [.ref re, .ref wa, .int wc])), (re, .inl (cI, 64, .inl fr)), (wa, .inl (cI, 576, .inl fw))] hz)) 0 0 (va_A [(xx, .inr (0, [.ref pr, .ref wy, .ref mc])), (pr, .inr (1, [.int kd, .int (nI n), .int ac, .ref po, .ref pn])), (po, .inl (cI, 64, .inl fo)), (pn, .inl (cI, 64, .inl fn)), (wy, .inr (2, [.ref re, .ref wa, .int wc])), (re, .inl (cI, 64, .inl fr)), (wa, .inl (cI, 576, .inl fw))] hz) := by
  refine Met.ofW (cc := b_SJ_check) (maxL := 1) (ret := (some .int)) (by decide) rfl ?_
  intro p e s m args below meth c s₁ B hml hv
  obtain ⟨rfl, hsz, hP, hE, hD0, hZ⟩ := hv
  have hx := B.exec
  have hb := B.bytes
  have hr := B.returns
  have hts : ∀ w ∈ gW, w.before _ s = true := fun w h => atoms_spec (ws := w_SJ_check) B.pre w (List.mem_cons_of_mem _ h)
  have hown : s.vm.findClass R_SJ = some m.cls := findClass_of_methodNamed B.named
  have hlocks := B.notSynchronized
  subst hsz
  have hD := hD0.self (sz := s.heap.size)
  have hA : ∀ q : Nat, s.heap.size ≤ q → va_A [(xx, .inr (0, [.ref pr, .ref wy, .ref mc])), (pr, .inr (1, [.int kd, .int (nI n), .int ac, .ref po, .ref pn])), (po, .inl (cI, 64, .inl fo)), (pn, .inl (cI, 64, .inl fn)), (wy, .inr (2, [.ref re, .ref wa, .int wc])), (re, .inl (cI, 64, .inl fr)), (wa, .inl (cI, 576, .inl fw))] s.heap.size q := fun q h => Or.inr h
  generalize va_A [(xx, .inr (0, [.ref pr, .ref wy, .ref mc])), (pr, .inr (1, [.int kd, .int (nI n), .int ac, .ref po, .ref pn])), (po, .inl (cI, 64, .inl fo)), (pn, .inl (cI, 64, .inl fn)), (wy, .inr (2, [.ref re, .ref wa, .int wc])), (re, .inl (cI, 64, .inl fr)), (wa, .inl (cI, 576, .inl fw))] s.heap.size = A at hD hA hZ ⊢
  have hS : va_S A s.heap s.heap [] := va_S.rf
  have hP : va_P D classes [(xx, .inr (0, [.ref pr, .ref wy, .ref mc])), (pr, .inr (1, [.int kd, .int (nI n), .int ac, .ref po, .ref pn])), (po, .inl (cI, 64, .inl fo)), (pn, .inl (cI, 64, .inl fn)), (wy, .inr (2, [.ref re, .ref wa, .int wc])), (re, .inl (cI, 64, .inl fr)), (wa, .inl (cI, 576, .inl fw))] s.heap := hP
  have hD : va_D A [(xx, .inr (0, [.ref pr, .ref wy, .ref mc])), (pr, .inr (1, [.int kd, .int (nI n), .int ac, .ref po, .ref pn])), (po, .inl (cI, 64, .inl fo)), (pn, .inl (cI, 64, .inl fn)), (wy, .inr (2, [.ref re, .ref wa, .int wc])), (re, .inl (cI, 64, .inl fr)), (wa, .inl (cI, 576, .inl fw))] := hD
  have hl := lv_entry ([.ref xx]) (n := 1) (Nat.le_of_ble_eq_true rfl)
  rw [lg_entry_eq]
  generalize (lg_sl ([.ref xx]) ++ List.replicate (1 - (lg_sl ([.ref xx])).length) Slot.unset).toArray = ls at hl ⊢
  have hl : lv_has ls 1 [(0, .ref xx)] := hl
  refine lv_aload_n hx hb d_SJ_check_0 rfl (lv_at hl 0 rfl) ?_
  refine va_get (D := D) (ci := 0) (v := .ref pr) (C := R_SJ) (T := F_SJ) (N := 3) hx hb hts in_SJ hown hE.1 hP 0 rfl rfl 0 (by decide) (hts _ k_119) (fun _ h9 => h9) rfl d_SJ_check_1 ?_
  refine va_get (D := D) (ci := 1) (v := .int (nI n)) (C := R_Program) (T := F_Program) (N := 5) hx hb hts in_Program hown hE.1 hP 1 rfl rfl 1 (by decide) (hts _ k_43) (fun _ h9 => h9) rfl d_SJ_check_4 ?_
  refine lv_if_ne (tgt := 13) hx hb d_SJ_check_7 (by decide) (fun h1 => ?_) (fun h1 => ?_)
  · -- ¬ (nI n) = 0
    refine lv_aload_n hx hb d_SJ_check_13 rfl (lv_at hl 0 rfl) ?_
    refine va_get (D := D) (ci := 0) (v := .ref wy) (C := R_SJ) (T := F_SJ) (N := 3) hx hb hts in_SJ hown hE.1 hP 0 rfl rfl 1 (by decide) (hts _ k_120) (fun _ h9 => h9) rfl d_SJ_check_14 ?_
    refine lv_aload_n hx hb d_SJ_check_17 rfl (lv_at hl 0 rfl) ?_
    refine va_get (D := D) (ci := 0) (v := .ref pr) (C := R_SJ) (T := F_SJ) (N := 3) hx hb hts in_SJ hown hE.1 hP 0 rfl rfl 0 (by decide) (hts _ k_119) (fun _ h9 => h9) rfl d_SJ_check_18 ?_
    have hPc := hP.sub (ws' := [(pr, .inr (1, [.int kd, .int (nI n), .int ac, .ref po, .ref pn])), (po, .inl (cI, 64, .inl fo)), (pn, .inl (cI, 64, .inl fn)), (wy, .inr (2, [.ref re, .ref wa, .int wc])), (re, .inl (cI, 64, .inl fr)), (wa, .inl (cI, 576, .inl fw))]) [1, 2, 3, 4, 5, 6] rfl
    have hDc := hD.sub (ws' := [(pr, .inr (1, [.int kd, .int (nI n), .int ac, .ref po, .ref pn])), (po, .inl (cI, 64, .inl fo)), (pn, .inl (cI, 64, .inl fn)), (wy, .inr (2, [.ref re, .ref wa, .int wc])), (re, .inl (cI, 64, .inl fr)), (wa, .inl (cI, 576, .inl fw))]) [1, 2, 3, 4, 5, 6] (by decide) rfl
    have hFc := va_free (wc := [(pr, .inr (1, [.int kd, .int (nI n), .int ac, .ref po, .ref pn])), (po, .inl (cI, 64, .inl fo)), (pn, .inl (cI, 64, .inl fn)), (wy, .inr (2, [.ref re, .ref wa, .int wc])), (re, .inl (cI, 64, .inl fr)), (wa, .inl (cI, 576, .inl fw))]) hD hS hA [1, 2, 3, 4, 5, 6] rfl
    refine va_callv (va_runV (As := [.ref pr]) (rest := []) ⟨hx, hb, hml, hown, hts⟩ (c_Ways_follow l D cI cZ tN tG s.heap.size pr po pn kd (nI n) ac fo fn wy re wa fr fw wc) (cwV 1 hts (gd4 k_156 k_157 k_158 k_20 k_159) rfl rfl rfl (by decide +kernel) ⟨Nat.le_of_ble_eq_true rfl, Nat.le_of_ble_eq_true rfl⟩) ⟨MZ_blind, va_recv (q0 := 4) (ci := 2) hE.1 hP rfl rfl, mz_pre hE hZ hS hPc hDc hFc⟩ rfl rfl hl.1 rfl (lv_room (Nat.le_of_ble_eq_true rfl)) d_SJ_check_21 ⟨Nat.zero_le _, Nat.zero_le _⟩) hS (fun q _ h => hFc q h) hFc (fun u t H1 locs ht hvm hw hB hz1 hk1 hS => ?_)
    obtain ⟨hP1, hD1⟩ := hB
    rw [ht] at hP1
    subst hw
    obtain ⟨hP, hD⟩ := va_join (wr := [(xx, .inr (0, [.ref pr, .ref wy, .ref mc]))]) (w1 := [(pr, .inr (1, [.int kd, .int (nI n), .int ac, .ref po, .ref pn])), (po, .inl (cI, 64, .inl fo)), (pn, .inl (cI, 64, .inl fn)), (wy, .inr (2, [.ref re, .ref wa, .int ((w_follow kd (nI n) ac fo fn fw).2.2)])), (re, .inl (cI, 64, .inl ((w_follow kd (nI n) ac fo fn fw).1))), (wa, .inl (cI, 576, .inl ((w_follow kd (nI n) ac fo fn fw).2.1)))]) hP hD [1, 2, 3, 4, 5, 6] [0] rfl rfl (by decide) (by decide) hk1 hFc hP1 hD1
    generalize H1 = H at hP hS ⊢
    have hP : va_P D classes [(xx, .inr (0, [.ref pr, .ref wy, .ref mc])), (pr, .inr (1, [.int kd, .int (nI n), .int ac, .ref po, .ref pn])), (po, .inl (cI, 64, .inl fo)), (pn, .inl (cI, 64, .inl fn)), (wy, .inr (2, [.ref re, .ref wa, .int ((w_follow kd (nI n) ac fo fn fw).2.2)])), (re, .inl (cI, 64, .inl ((w_follow kd (nI n) ac fo fn fw).1))), (wa, .inl (cI, 576, .inl ((w_follow kd (nI n) ac fo fn fw).2.1)))] H := hP
    have hD : va_D A [(xx, .inr (0, [.ref pr, .ref wy, .ref mc])), (pr, .inr (1, [.int kd, .int (nI n), .int ac, .ref po, .ref pn])), (po, .inl (cI, 64, .inl fo)), (pn, .inl (cI, 64, .inl fn)), (wy, .inr (2, [.ref re, .ref wa, .int ((w_follow kd (nI n) ac fo fn fw).2.2)])), (re, .inl (cI, 64, .inl ((w_follow kd (nI n) ac fo fn fw).1))), (wa, .inl (cI, 576, .inl ((w_follow kd (nI n) ac fo fn fw).2.1)))] := hD
    refine lv_aload_n hx hb d_SJ_check_24 rfl (lv_at hl 0 rfl) ?_
    refine va_get (D := D) (ci := 0) (v := .ref wy) (C := R_SJ) (T := F_SJ) (N := 3) hx hb hts in_SJ hown hE.1 hP 0 rfl rfl 1 (by decide) (hts _ k_120) (fun _ h9 => h9) rfl d_SJ_check_25 ?_
    refine lv_aload_n hx hb d_SJ_check_28 rfl (lv_at hl 0 rfl) ?_
    refine va_get (D := D) (ci := 0) (v := .ref pr) (C := R_SJ) (T := F_SJ) (N := 3) hx hb hts in_SJ hown hE.1 hP 0 rfl rfl 0 (by decide) (hts _ k_119) (fun _ h9 => h9) rfl d_SJ_check_29 ?_
    refine vp_callSi (va_Run.run (va_runV (As := [.ref pr]) (rest := []) ⟨hx, hb, hml, hown, hts⟩ (c_Ways_firstWrong l D cI cZ tN tG pr po pn kd ac n fo fn wy re wa ((w_follow kd (nI n) ac fo fn fw).1) ((w_follow kd (nI n) ac fo fn fw).2.1) ((w_follow kd (nI n) ac fo fn fw).2.2) hn) (cwV 1 hts (gd4 k_228 k_229 k_230 k_20 k_231) rfl rfl rfl (by decide +kernel) ⟨Nat.le_of_ble_eq_true rfl, Nat.le_of_ble_eq_true rfl⟩) ⟨PZ_blind, va_recv (q0 := 4) (ci := 2) hE.1 hP rfl rfl, pz_pre hE hZ hS (hP.sub [1, 2, 3, 4, 5, 6] rfl)⟩ rfl rfl hl.1 rfl (lv_room (Nat.le_of_ble_eq_true rfl)) d_SJ_check_32 ⟨Nat.zero_le _, Nat.zero_le _⟩)) (fun r hq => ?_)
    subst hq
    refine W.iret hx hb hr (fun t ht hW => ⟨⟨(w_first kd (nI n) ac fo fn ((w_follow kd (nI n) ac fo fn fw).1) n 0), (w_follow kd (nI n) ac fo fn fw), rfl, ?_, ?_⟩, hS.F ht⟩) hS.2.2 d_SJ_check_35
    · exact ⟨by simp only [j_chk, j_fol, h1, if_true, if_false, eq_self, not_true_eq_false, not_false_eq_true, ne_eq], by simp only [j_chk, j_fol, h1, if_true, if_false, eq_self, not_true_eq_false, not_false_eq_true, ne_eq]⟩
    · exact ⟨by rw [ht]; exact hP.sub [0, 1, 2, 3, 4, 5, 6] rfl, hD.sub [0, 1, 2, 3, 4, 5, 6] (by decide) rfl⟩
  · -- (nI n) = 0
    refine lv_bipush (v := 64) hx hb d_SJ_check_10 (by decide) ?_
    refine W.iret hx hb hr (fun t ht hW => ⟨⟨64, (fr, fw, wc), rfl, ?_, ?_⟩, hS.F ht⟩) hS.2.2 d_SJ_check_12
    · exact ⟨by simp only [j_chk, j_fol, h1, if_true, if_false, eq_self, not_true_eq_false, not_false_eq_true, ne_eq], by simp only [j_chk, j_fol, h1, if_true, if_false, eq_self, not_true_eq_false, not_false_eq_true, ne_eq]⟩
    · exact ⟨by rw [ht]; exact hP.sub [0, 1, 2, 3, 4, 5, 6] rfl, hD.sub [0, 1, 2, 3, 4, 5, 6] (by decide) rfl⟩
set_option maxHeartbeats 4000000 in
set_option maxRecDepth 100000 in
theorem c_SJ_heights (l : Launch) (D : va_G) (cI cZ : ClassId) (tN tG : Nat) (hz : Nat) (xx wy mc : Nat) (pr po pn : Nat) (kd ac : Int32) (n : Nat) (fo fn : Nat → Int32) (re wa : Nat) (fr fw : Nat → Int32) (wc : Int32) (k : Int32) : Met l y_SJ_heights w_SJ_heights (rmk 5) (va_Pc [.ref xx, .int k] (MZ D cI cZ tN tG [(xx, .inr (0, [.ref pr, .ref wy, .ref mc])), (pr, .inr (1, [.int kd, .int (nI n), .int ac, .ref po, .ref pn])), (po, .inl (cI, 64, .inl fo)), (pn, .inl (cI, 64, .inl fn)), (wy, .inr (2, [.ref re, .ref wa, .int wc])), (re, .inl (cI, 64, .inl fr)), (wa, .inl (cI, 576, .inl fw))] hz)) (va_Qi (fun (r : Int32) (u : WS) => (r, u) = j_hgt kd ac n fo fn k (fr, fw, wc)) (fun u t => ME D (va_A [(xx, .inr (0, [.ref pr, .ref wy, .ref mc])), (pr, .inr (1, [.int kd, .int (nI n), .int ac, .ref po, .ref pn])), (po, .inl (cI, 64, .inl fo)), (pn, .inl (cI, 64, .inl fn)), (wy, .inr (2, [.ref re, .ref wa, .int wc])), (re, .inl (cI, 64, .inl fr)), (wa, .inl (cI, 576, .inl fw))] hz) [(xx, .inr (0, [.ref pr, .ref wy, .ref mc])), (pr, .inr (1, [.int kd, .int (nI n), .int ac, .ref po, .ref pn])), (po, .inl (cI, 64, .inl fo)), (pn, .inl (cI, 64, .inl fn)), (wy, .inr (2, [.ref re, .ref wa, .int u.2.2])), (re, .inl (cI, 64, .inl u.1)), (wa, .inl (cI, 576, .inl u.2.1))] t) (va_A [(xx, .inr (0, [.ref pr, .ref wy, .ref mc])), (pr, .inr (1, [.int kd, .int (nI n), .int ac, .ref po, .ref pn])), (po, .inl (cI, 64, .inl fo)), (pn, .inl (cI, 64, .inl fn)), (wy, .inr (2, [.ref re, .ref wa, .int wc])), (re, .inl (cI, 64, .inl fr)), (wa, .inl (cI, 576, .inl fw))] hz)) 0 0 (va_A [(xx, .inr (0, [.ref pr, .ref wy, .ref mc])), (pr, .inr (1, [.int kd, .int (nI n), .int ac, .ref po, .ref pn])), (po, .inl (cI, 64, .inl fo)), (pn, .inl (cI, 64, .inl fn)), (wy, .inr (2, [.ref re, .ref wa, .int wc])), (re, .inl (cI, 64, .inl fr)), (wa, .inl (cI, 576, .inl fw))] hz) := by
  refine Met.ofW (cc := b_SJ_heights) (maxL := 2) (ret := (some .int)) (by decide) rfl ?_
  intro p e s m args below meth c s₁ B hml hv
  obtain ⟨rfl, hsz, hP, hE, hD0, hZ⟩ := hv
  have hx := B.exec
  have hb := B.bytes
  have hr := B.returns
  have hts : ∀ w ∈ gW, w.before _ s = true := fun w h => atoms_spec (ws := w_SJ_heights) B.pre w (List.mem_cons_of_mem _ h)
  have hown : s.vm.findClass R_SJ = some m.cls := findClass_of_methodNamed B.named
  have hlocks := B.notSynchronized
  subst hsz
  have hD := hD0.self (sz := s.heap.size)
  have hA : ∀ q : Nat, s.heap.size ≤ q → va_A [(xx, .inr (0, [.ref pr, .ref wy, .ref mc])), (pr, .inr (1, [.int kd, .int (nI n), .int ac, .ref po, .ref pn])), (po, .inl (cI, 64, .inl fo)), (pn, .inl (cI, 64, .inl fn)), (wy, .inr (2, [.ref re, .ref wa, .int wc])), (re, .inl (cI, 64, .inl fr)), (wa, .inl (cI, 576, .inl fw))] s.heap.size q := fun q h => Or.inr h
  generalize va_A [(xx, .inr (0, [.ref pr, .ref wy, .ref mc])), (pr, .inr (1, [.int kd, .int (nI n), .int ac, .ref po, .ref pn])), (po, .inl (cI, 64, .inl fo)), (pn, .inl (cI, 64, .inl fn)), (wy, .inr (2, [.ref re, .ref wa, .int wc])), (re, .inl (cI, 64, .inl fr)), (wa, .inl (cI, 576, .inl fw))] s.heap.size = A at hD hA hZ ⊢
  have hS : va_S A s.heap s.heap [] := va_S.rf
  have hP : va_P D classes [(xx, .inr (0, [.ref pr, .ref wy, .ref mc])), (pr, .inr (1, [.int kd, .int (nI n), .int ac, .ref po, .ref pn])), (po, .inl (cI, 64, .inl fo)), (pn, .inl (cI, 64, .inl fn)), (wy, .inr (2, [.ref re, .ref wa, .int wc])), (re, .inl (cI, 64, .inl fr)), (wa, .inl (cI, 576, .inl fw))] s.heap := hP
  have hD : va_D A [(xx, .inr (0, [.ref pr, .ref wy, .ref mc])), (pr, .inr (1, [.int kd, .int (nI n), .int ac, .ref po, .ref pn])), (po, .inl (cI, 64, .inl fo)), (pn, .inl (cI, 64, .inl fn)), (wy, .inr (2, [.ref re, .ref wa, .int wc])), (re, .inl (cI, 64, .inl fr)), (wa, .inl (cI, 576, .inl fw))] := hD
  have hl := lv_entry ([.ref xx, .int k]) (n := 2) (Nat.le_of_ble_eq_true rfl)
  rw [lg_entry_eq]
  generalize (lg_sl ([.ref xx, .int k]) ++ List.replicate (2 - (lg_sl ([.ref xx, .int k])).length) Slot.unset).toArray = ls at hl ⊢
  have hl : lv_has ls 2 [(0, .ref xx), (1, .int k)] := hl
  refine lv_aload_n hx hb d_SJ_heights_0 rfl (lv_at hl 0 rfl) ?_
  refine va_get (D := D) (ci := 0) (v := .ref pr) (C := R_SJ) (T := F_SJ) (N := 3) hx hb hts in_SJ hown hE.1 hP 0 rfl rfl 0 (by decide) (hts _ k_119) (fun _ h9 => h9) rfl d_SJ_heights_1 ?_
  refine lv_iload_n hx hb d_SJ_heights_4 rfl (lv_at hl 1 rfl) ?_
  refine vp_callSi (va_Run.run (va_runV (As := [.int k]) (rest := []) ⟨hx, hb, hml, hown, hts⟩ (c_Program_has l D cI cZ tN tG pr po pn kd (nI n) ac fo fn k) (cwV 1 hts (gd4 k_247 k_168 k_169 k_19 k_170) rfl rfl rfl (by decide +kernel) ⟨Nat.le_of_ble_eq_true rfl, Nat.le_of_ble_eq_true rfl⟩) ⟨PZ_blind, va_recv (q0 := 1) (ci := 1) hE.1 hP rfl rfl, pz_pre hE hZ hS (hP.sub [1, 2, 3] rfl)⟩ rfl rfl hl.1 rfl (lv_room (Nat.le_of_ble_eq_true rfl)) d_SJ_heights_5 ⟨Nat.zero_le _, Nat.zero_le _⟩)) (fun r hq => ?_)
  subst hq
  refine lv_if_ne (tgt := 13) hx hb d_SJ_heights_8 (by decide) (fun h1 => ?_) (fun h1 => ?_)
  · -- ¬ (p_has (nI n) k) = 0
    refine lv_aload_n hx hb d_SJ_heights_13 rfl (lv_at hl 0 rfl) ?_
    refine va_get (D := D) (ci := 0) (v := .ref wy) (C := R_SJ) (T := F_SJ) (N := 3) hx hb hts in_SJ hown hE.1 hP 0 rfl rfl 1 (by decide) (hts _ k_120) (fun _ h9 => h9) rfl d_SJ_heights_14 ?_
    refine lv_aload_n hx hb d_SJ_heights_17 rfl (lv_at hl 0 rfl) ?_
    refine va_get (D := D) (ci := 0) (v := .ref pr) (C := R_SJ) (T := F_SJ) (N := 3) hx hb hts in_SJ hown hE.1 hP 0 rfl rfl 0 (by decide) (hts _ k_119) (fun _ h9 => h9) rfl d_SJ_heights_18 ?_
    have hPc := hP.sub (ws' := [(pr, .inr (1, [.int kd, .int (nI n), .int ac, .ref po, .ref pn])), (po, .inl (cI, 64, .inl fo)), (pn, .inl (cI, 64, .inl fn)), (wy, .inr (2, [.ref re, .ref wa, .int wc])), (re, .inl (cI, 64, .inl fr)), (wa, .inl (cI, 576, .inl fw))]) [1, 2, 3, 4, 5, 6] rfl
    have hDc := hD.sub (ws' := [(pr, .inr (1, [.int kd, .int (nI n), .int ac, .ref po, .ref pn])), (po, .inl (cI, 64, .inl fo)), (pn, .inl (cI, 64, .inl fn)), (wy, .inr (2, [.ref re, .ref wa, .int wc])), (re, .inl (cI, 64, .inl fr)), (wa, .inl (cI, 576, .inl fw))]) [1, 2, 3, 4, 5, 6] (by decide) rfl
    have hFc := va_free (wc := [(pr, .inr (1, [.int kd, .int (nI n), .int ac, .ref po, .ref pn])), (po, .inl (cI, 64, .inl fo)), (pn, .inl (cI, 64, .inl fn)), (wy, .inr (2, [.ref re, .ref wa, .int wc])), (re, .inl (cI, 64, .inl fr)), (wa, .inl (cI, 576, .inl fw))]) hD hS hA [1, 2, 3, 4, 5, 6] rfl
    refine va_callv (va_runV (As := [.ref pr]) (rest := []) ⟨hx, hb, hml, hown, hts⟩ (c_Ways_follow l D cI cZ tN tG s.heap.size pr po pn kd (nI n) ac fo fn wy re wa fr fw wc) (cwV 1 hts (gd4 k_156 k_157 k_158 k_20 k_159) rfl rfl rfl (by decide +kernel) ⟨Nat.le_of_ble_eq_true rfl, Nat.le_of_ble_eq_true rfl⟩) ⟨MZ_blind, va_recv (q0 := 4) (ci := 2) hE.1 hP rfl rfl, mz_pre hE hZ hS hPc hDc hFc⟩ rfl rfl hl.1 rfl (lv_room (Nat.le_of_ble_eq_true rfl)) d_SJ_heights_21 ⟨Nat.zero_le _, Nat.zero_le _⟩) hS (fun q _ h => hFc q h) hFc (fun u t H1 locs ht hvm hw hB hz1 hk1 hS => ?_)
    obtain ⟨hP1, hD1⟩ := hB
    rw [ht] at hP1
    subst hw
    obtain ⟨hP, hD⟩ := va_join (wr := [(xx, .inr (0, [.ref pr, .ref wy, .ref mc]))]) (w1 := [(pr, .inr (1, [.int kd, .int (nI n), .int ac, .ref po, .ref pn])), (po, .inl (cI, 64, .inl fo)), (pn, .inl (cI, 64, .inl fn)), (wy, .inr (2, [.ref re, .ref wa, .int ((w_follow kd (nI n) ac fo fn fw).2.2)])), (re, .inl (cI, 64, .inl ((w_follow kd (nI n) ac fo fn fw).1))), (wa, .inl (cI, 576, .inl ((w_follow kd (nI n) ac fo fn fw).2.1)))]) hP hD [1, 2, 3, 4, 5, 6] [0] rfl rfl (by decide) (by decide) hk1 hFc hP1 hD1
    generalize H1 = H at hP hS ⊢
    have hP : va_P D classes [(xx, .inr (0, [.ref pr, .ref wy, .ref mc])), (pr, .inr (1, [.int kd, .int (nI n), .int ac, .ref po, .ref pn])), (po, .inl (cI, 64, .inl fo)), (pn, .inl (cI, 64, .inl fn)), (wy, .inr (2, [.ref re, .ref wa, .int ((w_follow kd (nI n) ac fo fn fw).2.2)])), (re, .inl (cI, 64, .inl ((w_follow kd (nI n) ac fo fn fw).1))), (wa, .inl (cI, 576, .inl ((w_follow kd (nI n) ac fo fn fw).2.1)))] H := hP
    have hD : va_D A [(xx, .inr (0, [.ref pr, .ref wy, .ref mc])), (pr, .inr (1, [.int kd, .int (nI n), .int ac, .ref po, .ref pn])), (po, .inl (cI, 64, .inl fo)), (pn, .inl (cI, 64, .inl fn)), (wy, .inr (2, [.ref re, .ref wa, .int ((w_follow kd (nI n) ac fo fn fw).2.2)])), (re, .inl (cI, 64, .inl ((w_follow kd (nI n) ac fo fn fw).1))), (wa, .inl (cI, 576, .inl ((w_follow kd (nI n) ac fo fn fw).2.1)))] := hD
    refine lv_aload_n hx hb d_SJ_heights_24 rfl (lv_at hl 0 rfl) ?_
    refine va_get (D := D) (ci := 0) (v := .ref wy) (C := R_SJ) (T := F_SJ) (N := 3) hx hb hts in_SJ hown hE.1 hP 0 rfl rfl 1 (by decide) (hts _ k_120) (fun _ h9 => h9) rfl d_SJ_heights_25 ?_
    refine va_get (D := D) (ci := 2) (v := .ref re) (C := R_Ways) (T := F_Ways) (N := 3) hx hb hts in_Ways hown hE.1 hP 4 rfl rfl 0 (by decide) (hts _ k_67) (fun _ h9 => h9) rfl d_SJ_heights_28 ?_
    refine lv_iload_n hx hb d_SJ_heights_31 rfl (lv_at hl 1 rfl) ?_
    refine vp_callSi (va_Run.run (va_runS (As := [.ref re, .int k]) (rest := []) ⟨hx, hb, hml, hown, hts⟩ (c_SJ_read l re 64 ((w_follow kd (nI n) ac fo fn fw).1) k (by decide)) (cwS 2 hts (gd3 k_248 k_176 k_18 k_177) rfl rfl rfl (by decide +kernel) ⟨Nat.le_of_ble_eq_true rfl, Nat.le_of_ble_eq_true rfl⟩) (rp_pre hE.1 hP 5 0 rfl rfl) rfl rfl hl.1 rfl (lv_room (Nat.le_of_ble_eq_true rfl)) d_SJ_heights_32 ⟨Nat.zero_le _, Nat.zero_le _⟩)) (fun r hq => ?_)
    subst hq
    refine W.iret hx hb hr (fun t ht hW => ⟨⟨(rd ((w_follow kd (nI n) ac fo fn fw).1) 64 k), (w_follow kd (nI n) ac fo fn fw), rfl, ?_, ?_⟩, hS.F ht⟩) hS.2.2 d_SJ_heights_35
    · first | (simp only [j_hgt, h1, if_true, if_false, eq_self, not_true_eq_false, not_false_eq_true, ne_eq]; done) | (simp only [j_hgt, h1, if_true, if_false, eq_self, not_true_eq_false, not_false_eq_true, ne_eq]; rfl) | (simp [j_hgt, h1]; done)
    · exact ⟨by rw [ht]; exact hP.sub [0, 1, 2, 3, 4, 5, 6] rfl, hD.sub [0, 1, 2, 3, 4, 5, 6] (by decide) rfl⟩
  · -- (p_has (nI n) k) = 0
    refine lv_iconst (v := (-1)) hx hb d_SJ_heights_11 (by decide) ?_
    refine W.iret hx hb hr (fun t ht hW => ⟨⟨(-1), (fr, fw, wc), rfl, ?_, ?_⟩, hS.F ht⟩) hS.2.2 d_SJ_heights_12
    · first | (simp only [j_hgt, h1, if_true, if_false, eq_self, not_true_eq_false, not_false_eq_true, ne_eq]; done) | (simp only [j_hgt, h1, if_true, if_false, eq_self, not_true_eq_false, not_false_eq_true, ne_eq]; rfl) | (simp [j_hgt, h1]; done)
    · exact ⟨by rw [ht]; exact hP.sub [0, 1, 2, 3, 4, 5, 6] rfl, hD.sub [0, 1, 2, 3, 4, 5, 6] (by decide) rfl⟩
set_option maxHeartbeats 4000000 in
set_option maxRecDepth 100000 in
theorem c_SJ_call (l : Launch) (D : va_G) (cI cZ : ClassId) (tN tG : Nat) (hz : Nat) (xx wy : Nat) (pr po pn : Nat) (kd ac : Int32) (n : Nat) (fo fn : Nat → Int32) (re wa : Nat) (fr fw : Nat → Int32) (wc : Int32) (mc ky vy gy ly sy : Nat) (res stp pcn : Int32) (fk fv fa fl fs : Nat → Int32) (hgt ap : Int32) (x y z : Int32) (hn : n ≤ 64) : Met l y_SJ_call w_SJ_call (rmk 6) (va_Pc [.ref xx, .int x, .int y, .int z] (MZ D cI cZ tN tG [(xx, .inr (0, [.ref pr, .ref wy, .ref mc])), (pr, .inr (1, [.int kd, .int (nI n), .int ac, .ref po, .ref pn])), (po, .inl (cI, 64, .inl fo)), (pn, .inl (cI, 64, .inl fn)), (wy, .inr (2, [.ref re, .ref wa, .int wc])), (re, .inl (cI, 64, .inl fr)), (wa, .inl (cI, 576, .inl fw)), (mc, .inr (3, [.int res, .int stp, .int pcn, .ref ky, .ref vy, .ref gy, .ref ly, .ref sy, .int hgt, .int ap])), (ky, .inl (cI, 20, .inl fk)), (vy, .inl (cI, 20, .inl fv)), (gy, .inl (cI, 3, .inl fa)), (ly, .inl (cI, 4, .inl fl)), (sy, .inl (cI, 8, .inl fs))] hz)) (va_Qi (fun (r : Int32) (u : WS × MS) => (r, u) = j_call kd ac n fo fn x y z (fr, fw, wc) (res, stp, pcn, fk, fv, fa, fl, fs, hgt, ap)) (fun u t => ME D (va_A [(xx, .inr (0, [.ref pr, .ref wy, .ref mc])), (pr, .inr (1, [.int kd, .int (nI n), .int ac, .ref po, .ref pn])), (po, .inl (cI, 64, .inl fo)), (pn, .inl (cI, 64, .inl fn)), (wy, .inr (2, [.ref re, .ref wa, .int wc])), (re, .inl (cI, 64, .inl fr)), (wa, .inl (cI, 576, .inl fw)), (mc, .inr (3, [.int res, .int stp, .int pcn, .ref ky, .ref vy, .ref gy, .ref ly, .ref sy, .int hgt, .int ap])), (ky, .inl (cI, 20, .inl fk)), (vy, .inl (cI, 20, .inl fv)), (gy, .inl (cI, 3, .inl fa)), (ly, .inl (cI, 4, .inl fl)), (sy, .inl (cI, 8, .inl fs))] hz) [(xx, .inr (0, [.ref pr, .ref wy, .ref mc])), (pr, .inr (1, [.int kd, .int (nI n), .int ac, .ref po, .ref pn])), (po, .inl (cI, 64, .inl fo)), (pn, .inl (cI, 64, .inl fn)), (wy, .inr (2, [.ref re, .ref wa, .int u.1.2.2])), (re, .inl (cI, 64, .inl u.1.1)), (wa, .inl (cI, 576, .inl u.1.2.1)), (mc, .inr (3, [.int u.2.1, .int u.2.2.1, .int u.2.2.2.1, .ref ky, .ref vy, .ref gy, .ref ly, .ref sy, .int u.2.2.2.2.2.2.2.2.2.1, .int u.2.2.2.2.2.2.2.2.2.2])), (ky, .inl (cI, 20, .inl u.2.2.2.2.1)), (vy, .inl (cI, 20, .inl u.2.2.2.2.2.1)), (gy, .inl (cI, 3, .inl u.2.2.2.2.2.2.1)), (ly, .inl (cI, 4, .inl u.2.2.2.2.2.2.2.1)), (sy, .inl (cI, 8, .inl u.2.2.2.2.2.2.2.2.1))] t) (va_A [(xx, .inr (0, [.ref pr, .ref wy, .ref mc])), (pr, .inr (1, [.int kd, .int (nI n), .int ac, .ref po, .ref pn])), (po, .inl (cI, 64, .inl fo)), (pn, .inl (cI, 64, .inl fn)), (wy, .inr (2, [.ref re, .ref wa, .int wc])), (re, .inl (cI, 64, .inl fr)), (wa, .inl (cI, 576, .inl fw)), (mc, .inr (3, [.int res, .int stp, .int pcn, .ref ky, .ref vy, .ref gy, .ref ly, .ref sy, .int hgt, .int ap])), (ky, .inl (cI, 20, .inl fk)), (vy, .inl (cI, 20, .inl fv)), (gy, .inl (cI, 3, .inl fa)), (ly, .inl (cI, 4, .inl fl)), (sy, .inl (cI, 8, .inl fs))] hz)) 0 0 (va_A [(xx, .inr (0, [.ref pr, .ref wy, .ref mc])), (pr, .inr (1, [.int kd, .int (nI n), .int ac, .ref po, .ref pn])), (po, .inl (cI, 64, .inl fo)), (pn, .inl (cI, 64, .inl fn)), (wy, .inr (2, [.ref re, .ref wa, .int wc])), (re, .inl (cI, 64, .inl fr)), (wa, .inl (cI, 576, .inl fw)), (mc, .inr (3, [.int res, .int stp, .int pcn, .ref ky, .ref vy, .ref gy, .ref ly, .ref sy, .int hgt, .int ap])), (ky, .inl (cI, 20, .inl fk)), (vy, .inl (cI, 20, .inl fv)), (gy, .inl (cI, 3, .inl fa)), (ly, .inl (cI, 4, .inl fl)), (sy, .inl (cI, 8, .inl fs))] hz) := by
  refine Met.ofW (cc := b_SJ_call) (maxL := 4) (ret := (some .int)) (by decide) rfl ?_
  intro p e s m args below meth c s₁ B hml hv
  obtain ⟨rfl, hsz, hP, hE, hD0, hZ⟩ := hv
  have hx := B.exec
  have hb := B.bytes
  have hr := B.returns
  have hts : ∀ w ∈ gW, w.before _ s = true := fun w h => atoms_spec (ws := w_SJ_call) B.pre w (List.mem_cons_of_mem _ h)
  have hown : s.vm.findClass R_SJ = some m.cls := findClass_of_methodNamed B.named
  have hlocks := B.notSynchronized
  subst hsz
  have hD := hD0.self (sz := s.heap.size)
  have hA : ∀ q : Nat, s.heap.size ≤ q → va_A [(xx, .inr (0, [.ref pr, .ref wy, .ref mc])), (pr, .inr (1, [.int kd, .int (nI n), .int ac, .ref po, .ref pn])), (po, .inl (cI, 64, .inl fo)), (pn, .inl (cI, 64, .inl fn)), (wy, .inr (2, [.ref re, .ref wa, .int wc])), (re, .inl (cI, 64, .inl fr)), (wa, .inl (cI, 576, .inl fw)), (mc, .inr (3, [.int res, .int stp, .int pcn, .ref ky, .ref vy, .ref gy, .ref ly, .ref sy, .int hgt, .int ap])), (ky, .inl (cI, 20, .inl fk)), (vy, .inl (cI, 20, .inl fv)), (gy, .inl (cI, 3, .inl fa)), (ly, .inl (cI, 4, .inl fl)), (sy, .inl (cI, 8, .inl fs))] s.heap.size q := fun q h => Or.inr h
  generalize va_A [(xx, .inr (0, [.ref pr, .ref wy, .ref mc])), (pr, .inr (1, [.int kd, .int (nI n), .int ac, .ref po, .ref pn])), (po, .inl (cI, 64, .inl fo)), (pn, .inl (cI, 64, .inl fn)), (wy, .inr (2, [.ref re, .ref wa, .int wc])), (re, .inl (cI, 64, .inl fr)), (wa, .inl (cI, 576, .inl fw)), (mc, .inr (3, [.int res, .int stp, .int pcn, .ref ky, .ref vy, .ref gy, .ref ly, .ref sy, .int hgt, .int ap])), (ky, .inl (cI, 20, .inl fk)), (vy, .inl (cI, 20, .inl fv)), (gy, .inl (cI, 3, .inl fa)), (ly, .inl (cI, 4, .inl fl)), (sy, .inl (cI, 8, .inl fs))] s.heap.size = A at hD hA hZ ⊢
  have hS : va_S A s.heap s.heap [] := va_S.rf
  have hP : va_P D classes [(xx, .inr (0, [.ref pr, .ref wy, .ref mc])), (pr, .inr (1, [.int kd, .int (nI n), .int ac, .ref po, .ref pn])), (po, .inl (cI, 64, .inl fo)), (pn, .inl (cI, 64, .inl fn)), (wy, .inr (2, [.ref re, .ref wa, .int wc])), (re, .inl (cI, 64, .inl fr)), (wa, .inl (cI, 576, .inl fw)), (mc, .inr (3, [.int res, .int stp, .int pcn, .ref ky, .ref vy, .ref gy, .ref ly, .ref sy, .int hgt, .int ap])), (ky, .inl (cI, 20, .inl fk)), (vy, .inl (cI, 20, .inl fv)), (gy, .inl (cI, 3, .inl fa)), (ly, .inl (cI, 4, .inl fl)), (sy, .inl (cI, 8, .inl fs))] s.heap := hP
  have hD : va_D A [(xx, .inr (0, [.ref pr, .ref wy, .ref mc])), (pr, .inr (1, [.int kd, .int (nI n), .int ac, .ref po, .ref pn])), (po, .inl (cI, 64, .inl fo)), (pn, .inl (cI, 64, .inl fn)), (wy, .inr (2, [.ref re, .ref wa, .int wc])), (re, .inl (cI, 64, .inl fr)), (wa, .inl (cI, 576, .inl fw)), (mc, .inr (3, [.int res, .int stp, .int pcn, .ref ky, .ref vy, .ref gy, .ref ly, .ref sy, .int hgt, .int ap])), (ky, .inl (cI, 20, .inl fk)), (vy, .inl (cI, 20, .inl fv)), (gy, .inl (cI, 3, .inl fa)), (ly, .inl (cI, 4, .inl fl)), (sy, .inl (cI, 8, .inl fs))] := hD
  have hl := lv_entry ([.ref xx, .int x, .int y, .int z]) (n := 4) (Nat.le_of_ble_eq_true rfl)
  rw [lg_entry_eq]
  generalize (lg_sl ([.ref xx, .int x, .int y, .int z]) ++ List.replicate (4 - (lg_sl ([.ref xx, .int x, .int y, .int z])).length) Slot.unset).toArray = ls at hl ⊢
  have hl : lv_has ls 4 [(0, .ref xx), (1, .int x), (2, .int y), (3, .int z)] := hl
  refine lv_aload_n hx hb d_SJ_call_0 rfl (lv_at hl 0 rfl) ?_
  have hPc := hP.sub (ws' := [(xx, .inr (0, [.ref pr, .ref wy, .ref mc])), (pr, .inr (1, [.int kd, .int (nI n), .int ac, .ref po, .ref pn])), (po, .inl (cI, 64, .inl fo)), (pn, .inl (cI, 64, .inl fn)), (wy, .inr (2, [.ref re, .ref wa, .int wc])), (re, .inl (cI, 64, .inl fr)), (wa, .inl (cI, 576, .inl fw))]) [0, 1, 2, 3, 4, 5, 6] rfl
  have hDc := hD.sub (ws' := [(xx, .inr (0, [.ref pr, .ref wy, .ref mc])), (pr, .inr (1, [.int kd, .int (nI n), .int ac, .ref po, .ref pn])), (po, .inl (cI, 64, .inl fo)), (pn, .inl (cI, 64, .inl fn)), (wy, .inr (2, [.ref re, .ref wa, .int wc])), (re, .inl (cI, 64, .inl fr)), (wa, .inl (cI, 576, .inl fw))]) [0, 1, 2, 3, 4, 5, 6] (by decide) rfl
  have hFc := va_free (wc := [(xx, .inr (0, [.ref pr, .ref wy, .ref mc])), (pr, .inr (1, [.int kd, .int (nI n), .int ac, .ref po, .ref pn])), (po, .inl (cI, 64, .inl fo)), (pn, .inl (cI, 64, .inl fn)), (wy, .inr (2, [.ref re, .ref wa, .int wc])), (re, .inl (cI, 64, .inl fr)), (wa, .inl (cI, 576, .inl fw))]) hD hS hA [0, 1, 2, 3, 4, 5, 6] rfl
  refine va_calli (va_runV (As := []) (rest := []) ⟨hx, hb, hml, hown, hts⟩ (c_SJ_check l D cI cZ tN tG s.heap.size xx wy mc pr po pn kd ac n fo fn re wa fr fw wc hn) (cwV 0 hts (gd4 k_253 k_153 k_154 k_18 k_155) rfl rfl rfl (by decide +kernel) ⟨Nat.le_of_ble_eq_true rfl, Nat.le_of_ble_eq_true rfl⟩) ⟨MZ_blind, va_recv (q0 := 0) (ci := 0) hE.1 hP rfl rfl, mz_pre hE hZ hS hPc hDc hFc⟩ rfl rfl hl.1 rfl (lv_room (Nat.le_of_ble_eq_true rfl)) d_SJ_call_1 ⟨Nat.zero_le _, Nat.zero_le _⟩) hS (fun q _ h => hFc q h) hFc (fun r u t H1 locs ht hvm hw hB hz1 hk1 hS => ?_)
  obtain ⟨hP1, hD1⟩ := hB
  rw [ht] at hP1
  obtain ⟨hr1, hw1⟩ := hw
  subst hr1
  subst hw1
  obtain ⟨hP, hD⟩ := va_join (wr := [(mc, .inr (3, [.int res, .int stp, .int pcn, .ref ky, .ref vy, .ref gy, .ref ly, .ref sy, .int hgt, .int ap])), (ky, .inl (cI, 20, .inl fk)), (vy, .inl (cI, 20, .inl fv)), (gy, .inl (cI, 3, .inl fa)), (ly, .inl (cI, 4, .inl fl)), (sy, .inl (cI, 8, .inl fs))]) (w1 := [(xx, .inr (0, [.ref pr, .ref wy, .ref mc])), (pr, .inr (1, [.int kd, .int (nI n), .int ac, .ref po, .ref pn])), (po, .inl (cI, 64, .inl fo)), (pn, .inl (cI, 64, .inl fn)), (wy, .inr (2, [.ref re, .ref wa, .int ((j_fol kd ac n fo fn (fr, fw, wc)).2.2)])), (re, .inl (cI, 64, .inl ((j_fol kd ac n fo fn (fr, fw, wc)).1))), (wa, .inl (cI, 576, .inl ((j_fol kd ac n fo fn (fr, fw, wc)).2.1)))]) hP hD [0, 1, 2, 3, 4, 5, 6] [7, 8, 9, 10, 11, 12] rfl rfl (by decide) (by decide) hk1 hFc hP1 hD1
  generalize H1 = H at hP hS ⊢
  have hP : va_P D classes [(mc, .inr (3, [.int res, .int stp, .int pcn, .ref ky, .ref vy, .ref gy, .ref ly, .ref sy, .int hgt, .int ap])), (ky, .inl (cI, 20, .inl fk)), (vy, .inl (cI, 20, .inl fv)), (gy, .inl (cI, 3, .inl fa)), (ly, .inl (cI, 4, .inl fl)), (sy, .inl (cI, 8, .inl fs)), (xx, .inr (0, [.ref pr, .ref wy, .ref mc])), (pr, .inr (1, [.int kd, .int (nI n), .int ac, .ref po, .ref pn])), (po, .inl (cI, 64, .inl fo)), (pn, .inl (cI, 64, .inl fn)), (wy, .inr (2, [.ref re, .ref wa, .int ((j_fol kd ac n fo fn (fr, fw, wc)).2.2)])), (re, .inl (cI, 64, .inl ((j_fol kd ac n fo fn (fr, fw, wc)).1))), (wa, .inl (cI, 576, .inl ((j_fol kd ac n fo fn (fr, fw, wc)).2.1)))] H := hP
  have hD : va_D A [(mc, .inr (3, [.int res, .int stp, .int pcn, .ref ky, .ref vy, .ref gy, .ref ly, .ref sy, .int hgt, .int ap])), (ky, .inl (cI, 20, .inl fk)), (vy, .inl (cI, 20, .inl fv)), (gy, .inl (cI, 3, .inl fa)), (ly, .inl (cI, 4, .inl fl)), (sy, .inl (cI, 8, .inl fs)), (xx, .inr (0, [.ref pr, .ref wy, .ref mc])), (pr, .inr (1, [.int kd, .int (nI n), .int ac, .ref po, .ref pn])), (po, .inl (cI, 64, .inl fo)), (pn, .inl (cI, 64, .inl fn)), (wy, .inr (2, [.ref re, .ref wa, .int ((j_fol kd ac n fo fn (fr, fw, wc)).2.2)])), (re, .inl (cI, 64, .inl ((j_fol kd ac n fo fn (fr, fw, wc)).1))), (wa, .inl (cI, 576, .inl ((j_fol kd ac n fo fn (fr, fw, wc)).2.1)))] := hD
  refine lv_bipush (v := (-2)) hx hb d_SJ_call_4 (by decide) ?_
  refine lv_icmp_eq (tgt := 12) hx hb d_SJ_call_6 (by decide) (fun h1 => ?_) (fun h1 => ?_)
  · -- (j_chk kd ac n fo fn (fr, fw, wc)) = (-2)
    refine lv_aload_n hx hb d_SJ_call_12 rfl (lv_at hl 0 rfl) ?_
    refine va_get (D := D) (ci := 0) (v := .ref mc) (C := R_SJ) (T := F_SJ) (N := 3) hx hb hts in_SJ hown hE.1 hP 6 rfl rfl 2 (by decide) (hts _ k_121) (fun _ h9 => h9) rfl d_SJ_call_13 ?_
    refine lv_aload_n hx hb d_SJ_call_16 rfl (lv_at hl 0 rfl) ?_
    refine va_get (D := D) (ci := 0) (v := .ref pr) (C := R_SJ) (T := F_SJ) (N := 3) hx hb hts in_SJ hown hE.1 hP 6 rfl rfl 0 (by decide) (hts _ k_119) (fun _ h9 => h9) rfl d_SJ_call_17 ?_
    refine lv_iload_n hx hb d_SJ_call_20 rfl (lv_at hl 1 rfl) ?_
    refine lv_iload_n hx hb d_SJ_call_21 rfl (lv_at hl 2 rfl) ?_
    refine lv_iload_n hx hb d_SJ_call_22 rfl (lv_at hl 3 rfl) ?_
    have hPc := hP.sub (ws' := [(pr, .inr (1, [.int kd, .int (nI n), .int ac, .ref po, .ref pn])), (po, .inl (cI, 64, .inl fo)), (pn, .inl (cI, 64, .inl fn)), (mc, .inr (3, [.int res, .int stp, .int pcn, .ref ky, .ref vy, .ref gy, .ref ly, .ref sy, .int hgt, .int ap])), (ky, .inl (cI, 20, .inl fk)), (vy, .inl (cI, 20, .inl fv)), (gy, .inl (cI, 3, .inl fa)), (ly, .inl (cI, 4, .inl fl)), (sy, .inl (cI, 8, .inl fs))]) [7, 8, 9, 0, 1, 2, 3, 4, 5] rfl
    have hDc := hD.sub (ws' := [(pr, .inr (1, [.int kd, .int (nI n), .int ac, .ref po, .ref pn])), (po, .inl (cI, 64, .inl fo)), (pn, .inl (cI, 64, .inl fn)), (mc, .inr (3, [.int res, .int stp, .int pcn, .ref ky, .ref vy, .ref gy, .ref ly, .ref sy, .int hgt, .int ap])), (ky, .inl (cI, 20, .inl fk)), (vy, .inl (cI, 20, .inl fv)), (gy, .inl (cI, 3, .inl fa)), (ly, .inl (cI, 4, .inl fl)), (sy, .inl (cI, 8, .inl fs))]) [7, 8, 9, 0, 1, 2, 3, 4, 5] (by decide) rfl
    have hFc := va_free (wc := [(pr, .inr (1, [.int kd, .int (nI n), .int ac, .ref po, .ref pn])), (po, .inl (cI, 64, .inl fo)), (pn, .inl (cI, 64, .inl fn)), (mc, .inr (3, [.int res, .int stp, .int pcn, .ref ky, .ref vy, .ref gy, .ref ly, .ref sy, .int hgt, .int ap])), (ky, .inl (cI, 20, .inl fk)), (vy, .inl (cI, 20, .inl fv)), (gy, .inl (cI, 3, .inl fa)), (ly, .inl (cI, 4, .inl fl)), (sy, .inl (cI, 8, .inl fs))]) hD hS hA [7, 8, 9, 0, 1, 2, 3, 4, 5] rfl
    refine va_calli (va_runV (As := [.ref pr, .int x, .int y, .int z]) (rest := []) ⟨hx, hb, hml, hown, hts⟩ (c_Machine_run l D cI cZ tN tG H.size pr po pn kd (nI n) ac fo fn mc ky vy gy ly sy res stp pcn fk fv fa fl fs hgt ap x y z) (cwV 4 hts (gd4 k_254 k_255 k_256 k_21 k_257) rfl rfl rfl (by decide +kernel) ⟨Nat.le_of_ble_eq_true rfl, Nat.le_of_ble_eq_true rfl⟩) ⟨MZ_blind, va_recv (q0 := 0) (ci := 3) hE.1 hP rfl rfl, mz_pre hE hZ hS hPc hDc hFc⟩ rfl rfl hl.1 rfl (lv_room (Nat.le_of_ble_eq_true rfl)) d_SJ_call_23 ⟨Nat.zero_le _, Nat.zero_le _⟩) hS (fun q _ h => hFc q h) hFc (fun r u t H1 locs ht hvm hw hB hz1 hk1 hS => ?_)
    obtain ⟨hP1, hD1⟩ := hB
    rw [ht] at hP1
    have hr1 := congrArg Prod.fst hw
    have hu1 := congrArg Prod.snd hw
    dsimp only at hr1 hu1
    subst hr1
    subst hu1
    obtain ⟨hP, hD⟩ := va_join (wr := [(xx, .inr (0, [.ref pr, .ref wy, .ref mc])), (wy, .inr (2, [.ref re, .ref wa, .int ((j_fol kd ac n fo fn (fr, fw, wc)).2.2)])), (re, .inl (cI, 64, .inl ((j_fol kd ac n fo fn (fr, fw, wc)).1))), (wa, .inl (cI, 576, .inl ((j_fol kd ac n fo fn (fr, fw, wc)).2.1)))]) (w1 := [(pr, .inr (1, [.int kd, .int (nI n), .int ac, .ref po, .ref pn])), (po, .inl (cI, 64, .inl fo)), (pn, .inl (cI, 64, .inl fn)), (mc, .inr (3, [.int ((m_run kd fo fn x y z (res, stp, pcn, fk, fv, fa, fl, fs, hgt, ap)).2.1), .int ((m_run kd fo fn x y z (res, stp, pcn, fk, fv, fa, fl, fs, hgt, ap)).2.2.1), .int ((m_run kd fo fn x y z (res, stp, pcn, fk, fv, fa, fl, fs, hgt, ap)).2.2.2.1), .ref ky, .ref vy, .ref gy, .ref ly, .ref sy, .int ((m_run kd fo fn x y z (res, stp, pcn, fk, fv, fa, fl, fs, hgt, ap)).2.2.2.2.2.2.2.2.2.1), .int ((m_run kd fo fn x y z (res, stp, pcn, fk, fv, fa, fl, fs, hgt, ap)).2.2.2.2.2.2.2.2.2.2)])), (ky, .inl (cI, 20, .inl ((m_run kd fo fn x y z (res, stp, pcn, fk, fv, fa, fl, fs, hgt, ap)).2.2.2.2.1))), (vy, .inl (cI, 20, .inl ((m_run kd fo fn x y z (res, stp, pcn, fk, fv, fa, fl, fs, hgt, ap)).2.2.2.2.2.1))), (gy, .inl (cI, 3, .inl ((m_run kd fo fn x y z (res, stp, pcn, fk, fv, fa, fl, fs, hgt, ap)).2.2.2.2.2.2.1))), (ly, .inl (cI, 4, .inl ((m_run kd fo fn x y z (res, stp, pcn, fk, fv, fa, fl, fs, hgt, ap)).2.2.2.2.2.2.2.1))), (sy, .inl (cI, 8, .inl ((m_run kd fo fn x y z (res, stp, pcn, fk, fv, fa, fl, fs, hgt, ap)).2.2.2.2.2.2.2.2.1)))]) hP hD [7, 8, 9, 0, 1, 2, 3, 4, 5] [6, 10, 11, 12] rfl rfl (by decide) (by decide) hk1 hFc hP1 hD1
    generalize H1 = H at hP hS ⊢
    have hP : va_P D classes [(xx, .inr (0, [.ref pr, .ref wy, .ref mc])), (wy, .inr (2, [.ref re, .ref wa, .int ((j_fol kd ac n fo fn (fr, fw, wc)).2.2)])), (re, .inl (cI, 64, .inl ((j_fol kd ac n fo fn (fr, fw, wc)).1))), (wa, .inl (cI, 576, .inl ((j_fol kd ac n fo fn (fr, fw, wc)).2.1))), (pr, .inr (1, [.int kd, .int (nI n), .int ac, .ref po, .ref pn])), (po, .inl (cI, 64, .inl fo)), (pn, .inl (cI, 64, .inl fn)), (mc, .inr (3, [.int ((m_run kd fo fn x y z (res, stp, pcn, fk, fv, fa, fl, fs, hgt, ap)).2.1), .int ((m_run kd fo fn x y z (res, stp, pcn, fk, fv, fa, fl, fs, hgt, ap)).2.2.1), .int ((m_run kd fo fn x y z (res, stp, pcn, fk, fv, fa, fl, fs, hgt, ap)).2.2.2.1), .ref ky, .ref vy, .ref gy, .ref ly, .ref sy, .int ((m_run kd fo fn x y z (res, stp, pcn, fk, fv, fa, fl, fs, hgt, ap)).2.2.2.2.2.2.2.2.2.1), .int ((m_run kd fo fn x y z (res, stp, pcn, fk, fv, fa, fl, fs, hgt, ap)).2.2.2.2.2.2.2.2.2.2)])), (ky, .inl (cI, 20, .inl ((m_run kd fo fn x y z (res, stp, pcn, fk, fv, fa, fl, fs, hgt, ap)).2.2.2.2.1))), (vy, .inl (cI, 20, .inl ((m_run kd fo fn x y z (res, stp, pcn, fk, fv, fa, fl, fs, hgt, ap)).2.2.2.2.2.1))), (gy, .inl (cI, 3, .inl ((m_run kd fo fn x y z (res, stp, pcn, fk, fv, fa, fl, fs, hgt, ap)).2.2.2.2.2.2.1))), (ly, .inl (cI, 4, .inl ((m_run kd fo fn x y z (res, stp, pcn, fk, fv, fa, fl, fs, hgt, ap)).2.2.2.2.2.2.2.1))), (sy, .inl (cI, 8, .inl ((m_run kd fo fn x y z (res, stp, pcn, fk, fv, fa, fl, fs, hgt, ap)).2.2.2.2.2.2.2.2.1)))] H := hP
    have hD : va_D A [(xx, .inr (0, [.ref pr, .ref wy, .ref mc])), (wy, .inr (2, [.ref re, .ref wa, .int ((j_fol kd ac n fo fn (fr, fw, wc)).2.2)])), (re, .inl (cI, 64, .inl ((j_fol kd ac n fo fn (fr, fw, wc)).1))), (wa, .inl (cI, 576, .inl ((j_fol kd ac n fo fn (fr, fw, wc)).2.1))), (pr, .inr (1, [.int kd, .int (nI n), .int ac, .ref po, .ref pn])), (po, .inl (cI, 64, .inl fo)), (pn, .inl (cI, 64, .inl fn)), (mc, .inr (3, [.int ((m_run kd fo fn x y z (res, stp, pcn, fk, fv, fa, fl, fs, hgt, ap)).2.1), .int ((m_run kd fo fn x y z (res, stp, pcn, fk, fv, fa, fl, fs, hgt, ap)).2.2.1), .int ((m_run kd fo fn x y z (res, stp, pcn, fk, fv, fa, fl, fs, hgt, ap)).2.2.2.1), .ref ky, .ref vy, .ref gy, .ref ly, .ref sy, .int ((m_run kd fo fn x y z (res, stp, pcn, fk, fv, fa, fl, fs, hgt, ap)).2.2.2.2.2.2.2.2.2.1), .int ((m_run kd fo fn x y z (res, stp, pcn, fk, fv, fa, fl, fs, hgt, ap)).2.2.2.2.2.2.2.2.2.2)])), (ky, .inl (cI, 20, .inl ((m_run kd fo fn x y z (res, stp, pcn, fk, fv, fa, fl, fs, hgt, ap)).2.2.2.2.1))), (vy, .inl (cI, 20, .inl ((m_run kd fo fn x y z (res, stp, pcn, fk, fv, fa, fl, fs, hgt, ap)).2.2.2.2.2.1))), (gy, .inl (cI, 3, .inl ((m_run kd fo fn x y z (res, stp, pcn, fk, fv, fa, fl, fs, hgt, ap)).2.2.2.2.2.2.1))), (ly, .inl (cI, 4, .inl ((m_run kd fo fn x y z (res, stp, pcn, fk, fv, fa, fl, fs, hgt, ap)).2.2.2.2.2.2.2.1))), (sy, .inl (cI, 8, .inl ((m_run kd fo fn x y z (res, stp, pcn, fk, fv, fa, fl, fs, hgt, ap)).2.2.2.2.2.2.2.2.1)))] := hD
    refine W.iret hx hb hr (fun t ht hW => ⟨⟨(m_run kd fo fn x y z (res, stp, pcn, fk, fv, fa, fl, fs, hgt, ap)).1, ((j_fol kd ac n fo fn (fr, fw, wc)), ((m_run kd fo fn x y z (res, stp, pcn, fk, fv, fa, fl, fs, hgt, ap)).2.1, (m_run kd fo fn x y z (res, stp, pcn, fk, fv, fa, fl, fs, hgt, ap)).2.2.1, (m_run kd fo fn x y z (res, stp, pcn, fk, fv, fa, fl, fs, hgt, ap)).2.2.2.1, (m_run kd fo fn x y z (res, stp, pcn, fk, fv, fa, fl, fs, hgt, ap)).2.2.2.2.1, (m_run kd fo fn x y z (res, stp, pcn, fk, fv, fa, fl, fs, hgt, ap)).2.2.2.2.2.1, (m_run kd fo fn x y z (res, stp, pcn, fk, fv, fa, fl, fs, hgt, ap)).2.2.2.2.2.2.1, (m_run kd fo fn x y z (res, stp, pcn, fk, fv, fa, fl, fs, hgt, ap)).2.2.2.2.2.2.2.1, (m_run kd fo fn x y z (res, stp, pcn, fk, fv, fa, fl, fs, hgt, ap)).2.2.2.2.2.2.2.2.1, (m_run kd fo fn x y z (res, stp, pcn, fk, fv, fa, fl, fs, hgt, ap)).2.2.2.2.2.2.2.2.2.1, (m_run kd fo fn x y z (res, stp, pcn, fk, fv, fa, fl, fs, hgt, ap)).2.2.2.2.2.2.2.2.2.2)), rfl, ?_, ?_⟩, hS.F ht⟩) hS.2.2 d_SJ_call_26
    · first | (simp only [j_call, h1, if_true, if_false, eq_self, not_true_eq_false, not_false_eq_true, ne_eq]; done) | (simp only [j_call, h1, if_true, if_false, eq_self, not_true_eq_false, not_false_eq_true, ne_eq]; rfl) | (simp [j_call, h1]; done)
    · exact ⟨by rw [ht]; exact hP.sub [0, 4, 5, 6, 1, 2, 3, 7, 8, 9, 10, 11, 12] rfl, hD.sub [0, 4, 5, 6, 1, 2, 3, 7, 8, 9, 10, 11, 12] (by decide) rfl⟩
  · -- ¬ (j_chk kd ac n fo fn (fr, fw, wc)) = (-2)
    refine lv_bipush (v := (-2)) hx hb d_SJ_call_9 (by decide) ?_
    refine W.iret hx hb hr (fun t ht hW => ⟨⟨(-2), ((j_fol kd ac n fo fn (fr, fw, wc)), (res, stp, pcn, fk, fv, fa, fl, fs, hgt, ap)), rfl, ?_, ?_⟩, hS.F ht⟩) hS.2.2 d_SJ_call_11
    · first | (simp only [j_call, h1, if_true, if_false, eq_self, not_true_eq_false, not_false_eq_true, ne_eq]; done) | (simp only [j_call, h1, if_true, if_false, eq_self, not_true_eq_false, not_false_eq_true, ne_eq]; rfl) | (simp [j_call, h1]; done)
    · exact ⟨by rw [ht]; exact hP.sub [6, 7, 8, 9, 10, 11, 12, 0, 1, 2, 3, 4, 5] rfl, hD.sub [6, 7, 8, 9, 10, 11, 12, 0, 1, 2, 3, 4, 5] (by decide) rfl⟩
set_option maxHeartbeats 4000000 in
set_option maxRecDepth 100000 in
theorem c_SJ_result (l : Launch) (D : va_G) (cI cZ : ClassId) (tN tG : Nat) (xx pr wy : Nat) (mc ky vy gy ly sy : Nat) (res stp pcn : Int32) (fk fv fa fl fs : Nat → Int32) (hgt ap : Int32) : Met l y_SJ_result w_SJ_result (rmk 0) (va_Pc [.ref xx] (PZ D cI cZ tN tG [(xx, .inr (0, [.ref pr, .ref wy, .ref mc])), (mc, .inr (3, [.int res, .int stp, .int pcn, .ref ky, .ref vy, .ref gy, .ref ly, .ref sy, .int hgt, .int ap])), (ky, .inl (cI, 20, .inl fk)), (vy, .inl (cI, 20, .inl fv)), (gy, .inl (cI, 3, .inl fa)), (ly, .inl (cI, 4, .inl fl)), (sy, .inl (cI, 8, .inl fs))])) (vp_Si (fun r => r = res)) 0 0 (fun _ => False) := by
  refine Met.ofW (cc := b_SJ_result) (maxL := 1) (ret := (some .int)) (by decide) rfl ?_
  intro p e s m args below meth c s₁ B hml hv
  obtain ⟨rfl, hP, hE, hZ⟩ := hv
  have hx := B.exec
  have hb := B.bytes
  have hr := B.returns
  have hts : ∀ w ∈ gW, w.before _ s = true := fun w h => atoms_spec (ws := w_SJ_result) B.pre w (List.mem_cons_of_mem _ h)
  have hown : s.vm.findClass R_SJ = some m.cls := findClass_of_methodNamed B.named
  have hlocks := B.notSynchronized
  have hS : va_S (fun _ => False) s.heap s.heap [] := va_S.rf
  have hP : va_P D classes [(xx, .inr (0, [.ref pr, .ref wy, .ref mc])), (mc, .inr (3, [.int res, .int stp, .int pcn, .ref ky, .ref vy, .ref gy, .ref ly, .ref sy, .int hgt, .int ap])), (ky, .inl (cI, 20, .inl fk)), (vy, .inl (cI, 20, .inl fv)), (gy, .inl (cI, 3, .inl fa)), (ly, .inl (cI, 4, .inl fl)), (sy, .inl (cI, 8, .inl fs))] s.heap := hP
  have hl := lv_entry ([.ref xx]) (n := 1) (Nat.le_of_ble_eq_true rfl)
  rw [lg_entry_eq]
  generalize (lg_sl ([.ref xx]) ++ List.replicate (1 - (lg_sl ([.ref xx])).length) Slot.unset).toArray = ls at hl ⊢
  have hl : lv_has ls 1 [(0, .ref xx)] := hl
  refine lv_aload_n hx hb d_SJ_result_0 rfl (lv_at hl 0 rfl) ?_
  refine va_get (D := D) (ci := 0) (v := .ref mc) (C := R_SJ) (T := F_SJ) (N := 3) hx hb hts in_SJ hown hE.1 hP 0 rfl rfl 2 (by decide) (hts _ k_121) (fun _ h9 => h9) rfl d_SJ_result_1 ?_
  refine va_get (D := D) (ci := 3) (v := .int res) (C := R_Machine) (T := F_Machine) (N := 10) hx hb hts in_Machine hown hE.1 hP 1 rfl rfl 0 (by decide) (hts _ k_84) (fun _ h9 => h9) rfl d_SJ_result_4 ?_
  refine W.iret hx hb hr (fun t ht hW => ⟨_, rfl, ?_, ht⟩) (fun q h => by cases h) d_SJ_result_7
  show res = res
  rfl
set_option maxHeartbeats 4000000 in
set_option maxRecDepth 100000 in
theorem c_SJ_steps (l : Launch) (D : va_G) (cI cZ : ClassId) (tN tG : Nat) (xx pr wy : Nat) (mc ky vy gy ly sy : Nat) (res stp pcn : Int32) (fk fv fa fl fs : Nat → Int32) (hgt ap : Int32) : Met l y_SJ_steps w_SJ_steps (rmk 0) (va_Pc [.ref xx] (PZ D cI cZ tN tG [(xx, .inr (0, [.ref pr, .ref wy, .ref mc])), (mc, .inr (3, [.int res, .int stp, .int pcn, .ref ky, .ref vy, .ref gy, .ref ly, .ref sy, .int hgt, .int ap])), (ky, .inl (cI, 20, .inl fk)), (vy, .inl (cI, 20, .inl fv)), (gy, .inl (cI, 3, .inl fa)), (ly, .inl (cI, 4, .inl fl)), (sy, .inl (cI, 8, .inl fs))])) (vp_Si (fun r => r = stp)) 0 0 (fun _ => False) := by
  refine Met.ofW (cc := b_SJ_steps) (maxL := 1) (ret := (some .int)) (by decide) rfl ?_
  intro p e s m args below meth c s₁ B hml hv
  obtain ⟨rfl, hP, hE, hZ⟩ := hv
  have hx := B.exec
  have hb := B.bytes
  have hr := B.returns
  have hts : ∀ w ∈ gW, w.before _ s = true := fun w h => atoms_spec (ws := w_SJ_steps) B.pre w (List.mem_cons_of_mem _ h)
  have hown : s.vm.findClass R_SJ = some m.cls := findClass_of_methodNamed B.named
  have hlocks := B.notSynchronized
  have hS : va_S (fun _ => False) s.heap s.heap [] := va_S.rf
  have hP : va_P D classes [(xx, .inr (0, [.ref pr, .ref wy, .ref mc])), (mc, .inr (3, [.int res, .int stp, .int pcn, .ref ky, .ref vy, .ref gy, .ref ly, .ref sy, .int hgt, .int ap])), (ky, .inl (cI, 20, .inl fk)), (vy, .inl (cI, 20, .inl fv)), (gy, .inl (cI, 3, .inl fa)), (ly, .inl (cI, 4, .inl fl)), (sy, .inl (cI, 8, .inl fs))] s.heap := hP
  have hl := lv_entry ([.ref xx]) (n := 1) (Nat.le_of_ble_eq_true rfl)
  rw [lg_entry_eq]
  generalize (lg_sl ([.ref xx]) ++ List.replicate (1 - (lg_sl ([.ref xx])).length) Slot.unset).toArray = ls at hl ⊢
  have hl : lv_has ls 1 [(0, .ref xx)] := hl
  refine lv_aload_n hx hb d_SJ_steps_0 rfl (lv_at hl 0 rfl) ?_
  refine va_get (D := D) (ci := 0) (v := .ref mc) (C := R_SJ) (T := F_SJ) (N := 3) hx hb hts in_SJ hown hE.1 hP 0 rfl rfl 2 (by decide) (hts _ k_121) (fun _ h9 => h9) rfl d_SJ_steps_1 ?_
  refine va_get (D := D) (ci := 3) (v := .int stp) (C := R_Machine) (T := F_Machine) (N := 10) hx hb hts in_Machine hown hE.1 hP 1 rfl rfl 1 (by decide) (hts _ k_86) (fun _ h9 => h9) rfl d_SJ_steps_4 ?_
  refine W.iret hx hb hr (fun t ht hW => ⟨_, rfl, ?_, ht⟩) (fun q h => by cases h) d_SJ_steps_7
  show stp = stp
  rfl
set_option maxHeartbeats 4000000 in
set_option maxRecDepth 100000 in
theorem c_SJ_pairs (l : Launch) (D : va_G) (cI cZ : ClassId) (tN tG : Nat) (xx pr wy : Nat) (mc ky vy gy ly sy : Nat) (res stp pcn : Int32) (fk fv fa fl fs : Nat → Int32) (hgt ap : Int32) : Met l y_SJ_pairs w_SJ_pairs (rmk 0) (va_Pc [.ref xx] (PZ D cI cZ tN tG [(xx, .inr (0, [.ref pr, .ref wy, .ref mc])), (mc, .inr (3, [.int res, .int stp, .int pcn, .ref ky, .ref vy, .ref gy, .ref ly, .ref sy, .int hgt, .int ap])), (ky, .inl (cI, 20, .inl fk)), (vy, .inl (cI, 20, .inl fv)), (gy, .inl (cI, 3, .inl fa)), (ly, .inl (cI, 4, .inl fl)), (sy, .inl (cI, 8, .inl fs))])) (vp_Si (fun r => r = pcn)) 0 0 (fun _ => False) := by
  refine Met.ofW (cc := b_SJ_pairs) (maxL := 1) (ret := (some .int)) (by decide) rfl ?_
  intro p e s m args below meth c s₁ B hml hv
  obtain ⟨rfl, hP, hE, hZ⟩ := hv
  have hx := B.exec
  have hb := B.bytes
  have hr := B.returns
  have hts : ∀ w ∈ gW, w.before _ s = true := fun w h => atoms_spec (ws := w_SJ_pairs) B.pre w (List.mem_cons_of_mem _ h)
  have hown : s.vm.findClass R_SJ = some m.cls := findClass_of_methodNamed B.named
  have hlocks := B.notSynchronized
  have hS : va_S (fun _ => False) s.heap s.heap [] := va_S.rf
  have hP : va_P D classes [(xx, .inr (0, [.ref pr, .ref wy, .ref mc])), (mc, .inr (3, [.int res, .int stp, .int pcn, .ref ky, .ref vy, .ref gy, .ref ly, .ref sy, .int hgt, .int ap])), (ky, .inl (cI, 20, .inl fk)), (vy, .inl (cI, 20, .inl fv)), (gy, .inl (cI, 3, .inl fa)), (ly, .inl (cI, 4, .inl fl)), (sy, .inl (cI, 8, .inl fs))] s.heap := hP
  have hl := lv_entry ([.ref xx]) (n := 1) (Nat.le_of_ble_eq_true rfl)
  rw [lg_entry_eq]
  generalize (lg_sl ([.ref xx]) ++ List.replicate (1 - (lg_sl ([.ref xx])).length) Slot.unset).toArray = ls at hl ⊢
  have hl : lv_has ls 1 [(0, .ref xx)] := hl
  refine lv_aload_n hx hb d_SJ_pairs_0 rfl (lv_at hl 0 rfl) ?_
  refine va_get (D := D) (ci := 0) (v := .ref mc) (C := R_SJ) (T := F_SJ) (N := 3) hx hb hts in_SJ hown hE.1 hP 0 rfl rfl 2 (by decide) (hts _ k_121) (fun _ h9 => h9) rfl d_SJ_pairs_1 ?_
  refine va_get (D := D) (ci := 3) (v := .int pcn) (C := R_Machine) (T := F_Machine) (N := 10) hx hb hts in_Machine hown hE.1 hP 1 rfl rfl 2 (by decide) (hts _ k_88) (fun _ h9 => h9) rfl d_SJ_pairs_4 ?_
  refine W.iret hx hb hr (fun t ht hW => ⟨_, rfl, ?_, ht⟩) (fun q h => by cases h) d_SJ_pairs_7
  show pcn = pcn
  rfl
set_option maxHeartbeats 4000000 in
set_option maxRecDepth 100000 in
theorem c_SJ_pair (l : Launch) (D : va_G) (cI cZ : ClassId) (tN tG : Nat) (xx pr wy : Nat) (mc ky vy gy ly sy : Nat) (res stp pcn : Int32) (fk fv fa fl fs : Nat → Int32) (hgt ap : Int32) (k what : Int32) : Met l y_SJ_pair w_SJ_pair (rmk 1) (va_Pc [.ref xx, .int k, .int what] (PZ D cI cZ tN tG [(xx, .inr (0, [.ref pr, .ref wy, .ref mc])), (mc, .inr (3, [.int res, .int stp, .int pcn, .ref ky, .ref vy, .ref gy, .ref ly, .ref sy, .int hgt, .int ap])), (ky, .inl (cI, 20, .inl fk)), (vy, .inl (cI, 20, .inl fv)), (gy, .inl (cI, 3, .inl fa)), (ly, .inl (cI, 4, .inl fl)), (sy, .inl (cI, 8, .inl fs))])) (vp_Sl (fun r => r = j_pair pcn fk fv k what)) 0 0 (fun _ => False) := by
  refine Met.ofW (cc := b_SJ_pair) (maxL := 3) (ret := (some .long)) (by decide) rfl ?_
  intro p e s m args below meth c s₁ B hml hv
  obtain ⟨rfl, hP, hE, hZ⟩ := hv
  have hx := B.exec
  have hb := B.bytes
  have hr := B.returns
  have hts : ∀ w ∈ gW, w.before _ s = true := fun w h => atoms_spec (ws := w_SJ_pair) B.pre w (List.mem_cons_of_mem _ h)
  have hown : s.vm.findClass R_SJ = some m.cls := findClass_of_methodNamed B.named
  have hlocks := B.notSynchronized
  have hS : va_S (fun _ => False) s.heap s.heap [] := va_S.rf
  have hP : va_P D classes [(xx, .inr (0, [.ref pr, .ref wy, .ref mc])), (mc, .inr (3, [.int res, .int stp, .int pcn, .ref ky, .ref vy, .ref gy, .ref ly, .ref sy, .int hgt, .int ap])), (ky, .inl (cI, 20, .inl fk)), (vy, .inl (cI, 20, .inl fv)), (gy, .inl (cI, 3, .inl fa)), (ly, .inl (cI, 4, .inl fl)), (sy, .inl (cI, 8, .inl fs))] s.heap := hP
  have hl := lv_entry ([.ref xx, .int k, .int what]) (n := 3) (Nat.le_of_ble_eq_true rfl)
  rw [lg_entry_eq]
  generalize (lg_sl ([.ref xx, .int k, .int what]) ++ List.replicate (3 - (lg_sl ([.ref xx, .int k, .int what])).length) Slot.unset).toArray = ls at hl ⊢
  have hl : lv_has ls 3 [(0, .ref xx), (1, .int k), (2, .int what)] := hl
  refine lv_iload_n hx hb d_SJ_pair_0 rfl (lv_at hl 1 rfl) ?_
  refine lv_if_lt (tgt := 15) hx hb d_SJ_pair_1 (by decide) (fun h1 => ?_) (fun h1 => ?_)
  · -- k < 0
    refine lv_ldc2 (v := 1099511627776) hx hb hown (hts _ k_306) d_SJ_pair_15 ?_
    refine W.lret hx hb hr (fun t ht hW => ⟨_, rfl, ?_, ht⟩) (fun q h => by cases h) d_SJ_pair_18
    show 1099511627776 = j_pair pcn fk fv k what
    first | (simp only [j_pair, h1, if_true, if_false, eq_self, not_true_eq_false, not_false_eq_true, ne_eq]; done) | (simp only [j_pair, h1, if_true, if_false, eq_self, not_true_eq_false, not_false_eq_true, ne_eq]; rfl)
  · -- ¬ k < 0
    refine lv_iload_n hx hb d_SJ_pair_4 rfl (lv_at hl 1 rfl) ?_
    refine lv_aload_n hx hb d_SJ_pair_5 rfl (lv_at hl 0 rfl) ?_
    refine va_get (D := D) (ci := 0) (v := .ref mc) (C := R_SJ) (T := F_SJ) (N := 3) hx hb hts in_SJ hown hE.1 hP 0 rfl rfl 2 (by decide) (hts _ k_121) (fun _ h9 => h9) rfl d_SJ_pair_6 ?_
    refine va_get (D := D) (ci := 3) (v := .int pcn) (C := R_Machine) (T := F_Machine) (N := 10) hx hb hts in_Machine hown hE.1 hP 1 rfl rfl 2 (by decide) (hts _ k_88) (fun _ h9 => h9) rfl d_SJ_pair_9 ?_
    refine lv_icmp_lt (tgt := 19) hx hb d_SJ_pair_12 (by decide) (fun h2 => ?_) (fun h2 => ?_)
    · -- k < pcn
      refine lv_iload_n hx hb d_SJ_pair_19 rfl (lv_at hl 2 rfl) ?_
      by_cases h4 : what = 0
      · -- case 0
        subst h4
        refine lv_lookup (tgt := 48) hx hb d_SJ_pair_20 (by decide) (by decide +kernel : _ = (28 : Int)) (by decide) ?_
        refine lv_aload_n hx hb d_SJ_pair_48 rfl (lv_at hl 0 rfl) ?_
        refine va_get (D := D) (ci := 0) (v := .ref mc) (C := R_SJ) (T := F_SJ) (N := 3) hx hb hts in_SJ hown hE.1 hP 0 rfl rfl 2 (by decide) (hts _ k_121) (fun _ h9 => h9) rfl d_SJ_pair_49 ?_
        refine va_get (D := D) (ci := 3) (v := .ref ky) (C := R_Machine) (T := F_Machine) (N := 10) hx hb hts in_Machine hown hE.1 hP 1 rfl rfl 3 (by decide) (hts _ k_90) (fun _ h9 => h9) rfl d_SJ_pair_52 ?_
        refine lv_iload_n hx hb d_SJ_pair_55 rfl (lv_at hl 1 rfl) ?_
        refine vp_callSi (va_Run.run (va_runS (As := [.ref ky, .int k]) (rest := []) ⟨hx, hb, hml, hown, hts⟩ (c_SJ_read l ky 20 fk k (by decide)) (cwS 2 hts (gd3 k_248 k_176 k_18 k_177) rfl rfl rfl (by decide +kernel) ⟨Nat.le_of_ble_eq_true rfl, Nat.le_of_ble_eq_true rfl⟩) (rp_pre hE.1 hP 2 0 rfl rfl) rfl rfl hl.1 rfl (lv_room (Nat.le_of_ble_eq_true rfl)) d_SJ_pair_56 ⟨Nat.zero_le _, Nat.zero_le _⟩)) (fun r hq => ?_)
        subst hq
        refine lv_i2l (v := ((rd fk 20 k)).toInt64) hx hb d_SJ_pair_59 rfl ?_
        refine W.lret hx hb hr (fun t ht hW => ⟨_, rfl, ?_, ht⟩) (fun q h => by cases h) d_SJ_pair_60
        show (((rd fk 20 k)).toInt64) = j_pair pcn fk fv k 0
        first | (simp only [j_pair, h1, h2, if_true, if_false, eq_self, not_true_eq_false, not_false_eq_true, ne_eq]; done) | (simp only [j_pair, h1, h2, if_true, if_false, eq_self, not_true_eq_false, not_false_eq_true, ne_eq]; rfl)
      by_cases h5 : what = 1
      · -- case 1
        subst h5
        refine lv_lookup (tgt := 61) hx hb d_SJ_pair_20 (by decide) (by decide +kernel : _ = (41 : Int)) (by decide) ?_
        refine lv_aload_n hx hb d_SJ_pair_61 rfl (lv_at hl 0 rfl) ?_
        refine va_get (D := D) (ci := 0) (v := .ref mc) (C := R_SJ) (T := F_SJ) (N := 3) hx hb hts in_SJ hown hE.1 hP 0 rfl rfl 2 (by decide) (hts _ k_121) (fun _ h9 => h9) rfl d_SJ_pair_62 ?_
        refine va_get (D := D) (ci := 3) (v := .ref vy) (C := R_Machine) (T := F_Machine) (N := 10) hx hb hts in_Machine hown hE.1 hP 1 rfl rfl 4 (by decide) (hts _ k_92) (fun _ h9 => h9) rfl d_SJ_pair_65 ?_
        refine lv_iload_n hx hb d_SJ_pair_68 rfl (lv_at hl 1 rfl) ?_
        refine vp_callSi (va_Run.run (va_runS (As := [.ref vy, .int k]) (rest := []) ⟨hx, hb, hml, hown, hts⟩ (c_SJ_read l vy 20 fv k (by decide)) (cwS 2 hts (gd3 k_248 k_176 k_18 k_177) rfl rfl rfl (by decide +kernel) ⟨Nat.le_of_ble_eq_true rfl, Nat.le_of_ble_eq_true rfl⟩) (rp_pre hE.1 hP 3 0 rfl rfl) rfl rfl hl.1 rfl (lv_room (Nat.le_of_ble_eq_true rfl)) d_SJ_pair_69 ⟨Nat.zero_le _, Nat.zero_le _⟩)) (fun r hq => ?_)
        subst hq
        refine lv_i2l (v := ((rd fv 20 k)).toInt64) hx hb d_SJ_pair_72 rfl ?_
        refine W.lret hx hb hr (fun t ht hW => ⟨_, rfl, ?_, ht⟩) (fun q h => by cases h) d_SJ_pair_73
        show (((rd fv 20 k)).toInt64) = j_pair pcn fk fv k 1
        first | (simp only [j_pair, h1, h2, h4, if_true, if_false, eq_self, not_true_eq_false, not_false_eq_true, ne_eq]; done) | (simp only [j_pair, h1, h2, h4, if_true, if_false, eq_self, not_true_eq_false, not_false_eq_true, ne_eq]; rfl)
      refine lv_lookup (tgt := 74) (off := 54) hx hb d_SJ_pair_20 (by decide) (by show Op.lookupswitch.offset [(0, 28), (1, 41)] 54 (Int32.toInt what) = 54; rw [lv_osw h4 (by decide), lv_osw h5 (by decide)]; rfl) (by decide) ?_
      refine lv_ldc2 (v := 1099511627776) hx hb hown (hts _ k_306) d_SJ_pair_74 ?_
      refine W.lret hx hb hr (fun t ht hW => ⟨_, rfl, ?_, ht⟩) (fun q h => by cases h) d_SJ_pair_77
      show 1099511627776 = j_pair pcn fk fv k what
      first | (simp only [j_pair, h1, h2, h4, h5, if_true, if_false, eq_self, not_true_eq_false, not_false_eq_true, ne_eq]; done) | (simp only [j_pair, h1, h2, h4, h5, if_true, if_false, eq_self, not_true_eq_false, not_false_eq_true, ne_eq]; rfl)
    · -- ¬ k < pcn
      refine lv_ldc2 (v := 1099511627776) hx hb hown (hts _ k_306) d_SJ_pair_15 ?_
      refine W.lret hx hb hr (fun t ht hW => ⟨_, rfl, ?_, ht⟩) (fun q h => by cases h) d_SJ_pair_18
      show 1099511627776 = j_pair pcn fk fv k what
      first | (simp only [j_pair, h1, h2, if_true, if_false, eq_self, not_true_eq_false, not_false_eq_true, ne_eq]; done) | (simp only [j_pair, h1, h2, if_true, if_false, eq_self, not_true_eq_false, not_false_eq_true, ne_eq]; rfl)
