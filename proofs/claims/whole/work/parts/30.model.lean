set_option maxHeartbeats 4000000 in
set_option maxRecDepth 100000 in
theorem c_Model_isBad (l : Launch) (D : va_G) (cI cZ : ClassId) (mo mp mq mr mw mt ml mk mv : Nat) (kd : Int32) (n : Nat) (fo fn fR fW fs fl fk fv : Nat → Int32) (em sp rs : Int32) (a : Nat) (ha : a < 64) : Met l y_Model_isBad w_Model_isBad (rmk 0) (va_Pc [.ref mo, .int (nI a)] (PY D cI cZ [(mo, .inr (4, [.int kd, .ref mp, .ref mq, .int (nI n), .ref mr, .ref mw, .ref mt, .ref ml, .ref mk, .ref mv, .int em, .int sp, .int rs])), (mp, .inl (cI, 64, .inl fo)), (mq, .inl (cI, 64, .inl fn)), (mr, .inl (cI, 576, .inl fR)), (mw, .inl (cZ, 64, .inl fW)), (mt, .inl (cI, 8, .inl fs)), (ml, .inl (cI, 4, .inl fl)), (mk, .inl (cI, 20, .inl fk)), (mv, .inl (cI, 20, .inl fv))])) (vp_Si (fun r => r = v_bad kd (nI n) (fo a) (fn a))) 0 0 (fun _ => False) := by
  refine Met.ofW (cc := b_Model_isBad) (maxL := 4) (ret := (some .boolean)) (by decide) rfl ?_
  intro p e s m args below meth c s₁ B hml hv
  obtain ⟨rfl, hP, hE⟩ := hv
  have hx := B.exec
  have hb := B.bytes
  have hr := B.returns
  have hts : ∀ w ∈ gW, w.before _ s = true := fun w h => atoms_spec (ws := w_Model_isBad) B.pre w (List.mem_cons_of_mem _ h)
  have hown : s.vm.findClass R_Model = some m.cls := findClass_of_methodNamed B.named
  have hlocks := B.notSynchronized
  have hS : va_S (fun _ => False) s.heap s.heap [] := va_S.rf
  have hP : va_P D classes [(mo, .inr (4, [.int kd, .ref mp, .ref mq, .int (nI n), .ref mr, .ref mw, .ref mt, .ref ml, .ref mk, .ref mv, .int em, .int sp, .int rs])), (mp, .inl (cI, 64, .inl fo)), (mq, .inl (cI, 64, .inl fn)), (mr, .inl (cI, 576, .inl fR)), (mw, .inl (cZ, 64, .inl fW)), (mt, .inl (cI, 8, .inl fs)), (ml, .inl (cI, 4, .inl fl)), (mk, .inl (cI, 20, .inl fk)), (mv, .inl (cI, 20, .inl fv))] s.heap := hP
  have hl := lv_entry ([.ref mo, .int (nI a)]) (n := 4) (Nat.le_of_ble_eq_true rfl)
  rw [lg_entry_eq]
  generalize (lg_sl ([.ref mo, .int (nI a)]) ++ List.replicate (4 - (lg_sl ([.ref mo, .int (nI a)])).length) Slot.unset).toArray = ls at hl ⊢
  have hl : lv_has ls 4 [(0, .ref mo), (1, .int (nI a))] := hl
  refine lv_aload_n hx hb d_Model_isBad_0 rfl (lv_at hl 0 rfl) ?_
  refine va_get (D := D) (ci := 4) (v := .ref mp) (C := R_Model) (T := F_Model) (N := 13) hx hb hts in_Model hown hE.1 hP 0 rfl rfl 1 (by decide) (hts _ k_317) (fun _ h9 => h9) rfl d_Model_isBad_1 ?_
  refine lv_iload_n hx hb d_Model_isBad_4 rfl (lv_at hl 1 rfl) ?_
  refine va_iald hx hb hE.1 hP 1 0 rfl rfl (vp_in_nI (by omega) (by decide)) d_Model_isBad_5 ?_
  refine lv_eqi (y := fo a) (congrArg fo (nI_clamp (show a < 2 ^ 31 by omega))) ?_
  refine lv_istore_n hx hb d_Model_isBad_6 rfl hl (by decide) rfl (fun ls hl => ?_)
  have hl : lv_has ls 4 [(2, .int (fo a)), (0, .ref mo), (1, .int (nI a))] := hl
  refine lv_aload_n hx hb d_Model_isBad_7 rfl (lv_at hl 1 rfl) ?_
  refine va_get (D := D) (ci := 4) (v := .ref mq) (C := R_Model) (T := F_Model) (N := 13) hx hb hts in_Model hown hE.1 hP 0 rfl rfl 2 (by decide) (hts _ k_318) (fun _ h9 => h9) rfl d_Model_isBad_8 ?_
  refine lv_iload_n hx hb d_Model_isBad_11 rfl (lv_at hl 2 rfl) ?_
  refine va_iald hx hb hE.1 hP 2 0 rfl rfl (vp_in_nI (by omega) (by decide)) d_Model_isBad_12 ?_
  refine lv_eqi (y := fn a) (congrArg fn (nI_clamp (show a < 2 ^ 31 by omega))) ?_
  refine lv_istore_n hx hb d_Model_isBad_13 rfl hl (by decide) rfl (fun ls hl => ?_)
  have hl : lv_has ls 4 [(3, .int (fn a)), (2, .int (fo a)), (0, .ref mo), (1, .int (nI a))] := hl
  refine lv_iload_n hx hb d_Model_isBad_14 rfl (lv_at hl 1 rfl) ?_
  refine lv_if_lt (tgt := 51) hx hb d_Model_isBad_15 (by decide) (fun h1 => ?_) (fun h1 => ?_)
  · -- (fo a) < 0
    refine lv_iconst (v := 1) hx hb d_Model_isBad_51 (by decide) ?_
    refine W.zret hx hb hr (by decide) (fun t ht hW => ⟨_, rfl, ?_, ht⟩) (fun q h => by cases h) d_Model_isBad_52
    show 1 = v_bad kd (nI n) (fo a) (fn a)
    first | (simp only [v_bad, v_b18, v_b1, v_b2, v_b14, h1, if_true, if_false, eq_self, not_true_eq_false, not_false_eq_true, ne_eq]; done) | (simp only [v_bad, v_b18, v_b1, v_b2, v_b14, h1, if_true, if_false, eq_self, not_true_eq_false, not_false_eq_true, ne_eq]; rfl) | (simp [v_bad, v_b18, v_b1, v_b2, v_b14, h1]; done)
  · -- ¬ (fo a) < 0
    refine lv_iload_n hx hb d_Model_isBad_18 rfl (lv_at hl 1 rfl) ?_
    refine lv_bipush (v := 18) hx hb d_Model_isBad_19 (by decide) ?_
    refine lv_icmp_gt (tgt := 51) hx hb d_Model_isBad_21 (by decide) (fun h2 => ?_) (fun h2 => ?_)
    · -- 18 < (fo a)
      refine lv_iconst (v := 1) hx hb d_Model_isBad_51 (by decide) ?_
      refine W.zret hx hb hr (by decide) (fun t ht hW => ⟨_, rfl, ?_, ht⟩) (fun q h => by cases h) d_Model_isBad_52
      show 1 = v_bad kd (nI n) (fo a) (fn a)
      first | (simp only [v_bad, v_b18, v_b1, v_b2, v_b14, h1, h2, if_true, if_false, eq_self, not_true_eq_false, not_false_eq_true, ne_eq]; done) | (simp only [v_bad, v_b18, v_b1, v_b2, v_b14, h1, h2, if_true, if_false, eq_self, not_true_eq_false, not_false_eq_true, ne_eq]; rfl) | (simp [v_bad, v_b18, v_b1, v_b2, v_b14, h1, h2]; done)
    · -- ¬ 18 < (fo a)
      refine lv_iload_n hx hb d_Model_isBad_24 rfl (lv_at hl 1 rfl) ?_
      refine lv_bipush (v := 16) hx hb d_Model_isBad_25 (by decide) ?_
      refine lv_icmp_ne (tgt := 37) hx hb d_Model_isBad_27 (by decide) (fun h3 => ?_) (fun h3 => ?_)
      · -- ¬ (fo a) = 16
        refine lv_iload_n hx hb d_Model_isBad_37 rfl (lv_at hl 1 rfl) ?_
        refine lv_bipush (v := 18) hx hb d_Model_isBad_38 (by decide) ?_
        refine lv_icmp_ne (tgt := 53) hx hb d_Model_isBad_40 (by decide) (fun h4 => ?_) (fun h4 => ?_)
        · -- ¬ (fo a) = 18
          refine lv_iload_n hx hb d_Model_isBad_53 rfl (lv_at hl 1 rfl) ?_
          refine lv_iconst (v := 1) hx hb d_Model_isBad_54 (by decide) ?_
          refine lv_icmp_ne (tgt := 93) hx hb d_Model_isBad_55 (by decide) (fun h5 => ?_) (fun h5 => ?_)
          · -- ¬ (fo a) = 1
            refine lv_iload_n hx hb d_Model_isBad_93 rfl (lv_at hl 1 rfl) ?_
            refine lv_iconst (v := 2) hx hb d_Model_isBad_94 (by decide) ?_
            refine lv_icmp_eq (tgt := 103) hx hb d_Model_isBad_95 (by decide) (fun h6 => ?_) (fun h6 => ?_)
            · -- (fo a) = 2
              refine lv_iload_n hx hb d_Model_isBad_103 rfl (lv_at hl 0 rfl) ?_
              refine lv_if_lt (tgt := 112) hx hb d_Model_isBad_104 (by decide) (fun h7 => ?_) (fun h7 => ?_)
              · -- (fn a) < 0
                refine lv_iconst (v := 1) hx hb d_Model_isBad_112 (by decide) ?_
                refine lv_goto (tgt := 117) hx hb d_Model_isBad_113 (by decide) ?_
                refine W.zret hx hb hr (by decide) (fun t ht hW => ⟨_, rfl, ?_, ht⟩) (fun q h => by cases h) d_Model_isBad_117
                show 1 = v_bad kd (nI n) (fo a) (fn a)
                first | (simp only [v_bad, v_b18, v_b1, v_b2, v_b14, h1, h2, h3, h4, h5, h6, h7, if_true, if_false, eq_self, not_true_eq_false, not_false_eq_true, ne_eq]; done) | (simp only [v_bad, v_b18, v_b1, v_b2, v_b14, h1, h2, h3, h4, h5, h6, h7, if_true, if_false, eq_self, not_true_eq_false, not_false_eq_true, ne_eq]; rfl) | (simp [v_bad, v_b18, v_b1, v_b2, v_b14, h1, h2, h3, h4, h5, h6, h7]; done)
              · -- ¬ (fn a) < 0
                refine lv_iload_n hx hb d_Model_isBad_107 rfl (lv_at hl 0 rfl) ?_
                refine lv_iconst (v := 3) hx hb d_Model_isBad_108 (by decide) ?_
                refine lv_icmp_le (tgt := 116) hx hb d_Model_isBad_109 (by decide) (fun h8 => ?_) (fun h8 => ?_)
                · -- (fn a) ≤ 3
                  refine lv_iconst (v := 0) hx hb d_Model_isBad_116 (by decide) ?_
                  refine W.zret hx hb hr (by decide) (fun t ht hW => ⟨_, rfl, ?_, ht⟩) (fun q h => by cases h) d_Model_isBad_117
                  show 0 = v_bad kd (nI n) (fo a) (fn a)
                  first | (simp only [v_bad, v_b18, v_b1, v_b2, v_b14, h1, h2, h3, h4, h5, h6, h7, h8, if_true, if_false, eq_self, not_true_eq_false, not_false_eq_true, ne_eq]; done) | (simp only [v_bad, v_b18, v_b1, v_b2, v_b14, h1, h2, h3, h4, h5, h6, h7, h8, if_true, if_false, eq_self, not_true_eq_false, not_false_eq_true, ne_eq]; rfl) | (simp [v_bad, v_b18, v_b1, v_b2, v_b14, h1, h2, h3, h4, h5, h6, h7, h8]; done)
                · -- ¬ (fn a) ≤ 3
                  refine lv_iconst (v := 1) hx hb d_Model_isBad_112 (by decide) ?_
                  refine lv_goto (tgt := 117) hx hb d_Model_isBad_113 (by decide) ?_
                  refine W.zret hx hb hr (by decide) (fun t ht hW => ⟨_, rfl, ?_, ht⟩) (fun q h => by cases h) d_Model_isBad_117
                  show 1 = v_bad kd (nI n) (fo a) (fn a)
                  first | (simp only [v_bad, v_b18, v_b1, v_b2, v_b14, h1, h2, h3, h4, h5, h6, h7, h8, if_true, if_false, eq_self, not_true_eq_false, not_false_eq_true, ne_eq]; done) | (simp only [v_bad, v_b18, v_b1, v_b2, v_b14, h1, h2, h3, h4, h5, h6, h7, h8, if_true, if_false, eq_self, not_true_eq_false, not_false_eq_true, ne_eq]; rfl) | (simp [v_bad, v_b18, v_b1, v_b2, v_b14, h1, h2, h3, h4, h5, h6, h7, h8]; done)
            · -- ¬ (fo a) = 2
              refine lv_iload_n hx hb d_Model_isBad_98 rfl (lv_at hl 1 rfl) ?_
              refine lv_iconst (v := 3) hx hb d_Model_isBad_99 (by decide) ?_
              refine lv_icmp_ne (tgt := 118) hx hb d_Model_isBad_100 (by decide) (fun h9 => ?_) (fun h9 => ?_)
              · -- ¬ (fo a) = 3
                refine lv_iload_n hx hb d_Model_isBad_118 rfl (lv_at hl 1 rfl) ?_
                refine lv_bipush (v := 14) hx hb d_Model_isBad_119 (by decide) ?_
                refine lv_icmp_eq (tgt := 130) hx hb d_Model_isBad_121 (by decide) (fun h10 => ?_) (fun h10 => ?_)
                · -- (fo a) = 14
                  refine lv_iload_n hx hb d_Model_isBad_130 rfl (lv_at hl 0 rfl) ?_
                  refine lv_if_lt (tgt := 142) hx hb d_Model_isBad_131 (by decide) (fun h11 => ?_) (fun h11 => ?_)
                  · -- (fn a) < 0
                    refine lv_iconst (v := 1) hx hb d_Model_isBad_142 (by decide) ?_
                    refine lv_goto (tgt := 147) hx hb d_Model_isBad_143 (by decide) ?_
                    refine W.zret hx hb hr (by decide) (fun t ht hW => ⟨_, rfl, ?_, ht⟩) (fun q h => by cases h) d_Model_isBad_147
                    show 1 = v_bad kd (nI n) (fo a) (fn a)
                    first | (simp only [v_bad, v_b18, v_b1, v_b2, v_b14, h1, h2, h3, h4, h5, h6, h9, h10, h11, if_true, if_false, eq_self, not_true_eq_false, not_false_eq_true, ne_eq]; done) | (simp only [v_bad, v_b18, v_b1, v_b2, v_b14, h1, h2, h3, h4, h5, h6, h9, h10, h11, if_true, if_false, eq_self, not_true_eq_false, not_false_eq_true, ne_eq]; rfl) | (simp [v_bad, v_b18, v_b1, v_b2, v_b14, h1, h2, h3, h4, h5, h6, h9, h10, h11]; done)
                  · -- ¬ (fn a) < 0
                    refine lv_iload_n hx hb d_Model_isBad_134 rfl (lv_at hl 0 rfl) ?_
                    refine lv_aload_n hx hb d_Model_isBad_135 rfl (lv_at hl 2 rfl) ?_
                    refine va_get (D := D) (ci := 4) (v := .int (nI n)) (C := R_Model) (T := F_Model) (N := 13) hx hb hts in_Model hown hE.1 hP 0 rfl rfl 3 (by decide) (hts _ k_319) (fun _ h9 => h9) rfl d_Model_isBad_136 ?_
                    refine lv_icmp_lt (tgt := 146) hx hb d_Model_isBad_139 (by decide) (fun h12 => ?_) (fun h12 => ?_)
                    · -- (fn a) < (nI n)
                      refine lv_iconst (v := 0) hx hb d_Model_isBad_146 (by decide) ?_
                      refine W.zret hx hb hr (by decide) (fun t ht hW => ⟨_, rfl, ?_, ht⟩) (fun q h => by cases h) d_Model_isBad_147
                      show 0 = v_bad kd (nI n) (fo a) (fn a)
                      first | (simp only [v_bad, v_b18, v_b1, v_b2, v_b14, h1, h2, h3, h4, h5, h6, h9, h10, h11, h12, if_true, if_false, eq_self, not_true_eq_false, not_false_eq_true, ne_eq]; done) | (simp only [v_bad, v_b18, v_b1, v_b2, v_b14, h1, h2, h3, h4, h5, h6, h9, h10, h11, h12, if_true, if_false, eq_self, not_true_eq_false, not_false_eq_true, ne_eq]; rfl) | (simp [v_bad, v_b18, v_b1, v_b2, v_b14, h1, h2, h3, h4, h5, h6, h9, h10, h11, h12]; done)
                    · -- ¬ (fn a) < (nI n)
                      refine lv_iconst (v := 1) hx hb d_Model_isBad_142 (by decide) ?_
                      refine lv_goto (tgt := 147) hx hb d_Model_isBad_143 (by decide) ?_
                      refine W.zret hx hb hr (by decide) (fun t ht hW => ⟨_, rfl, ?_, ht⟩) (fun q h => by cases h) d_Model_isBad_147
                      show 1 = v_bad kd (nI n) (fo a) (fn a)
                      first | (simp only [v_bad, v_b18, v_b1, v_b2, v_b14, h1, h2, h3, h4, h5, h6, h9, h10, h11, h12, if_true, if_false, eq_self, not_true_eq_false, not_false_eq_true, ne_eq]; done) | (simp only [v_bad, v_b18, v_b1, v_b2, v_b14, h1, h2, h3, h4, h5, h6, h9, h10, h11, h12, if_true, if_false, eq_self, not_true_eq_false, not_false_eq_true, ne_eq]; rfl) | (simp [v_bad, v_b18, v_b1, v_b2, v_b14, h1, h2, h3, h4, h5, h6, h9, h10, h11, h12]; done)
                · -- ¬ (fo a) = 14
                  refine lv_iload_n hx hb d_Model_isBad_124 rfl (lv_at hl 1 rfl) ?_
                  refine lv_bipush (v := 15) hx hb d_Model_isBad_125 (by decide) ?_
                  refine lv_icmp_ne (tgt := 146) hx hb d_Model_isBad_127 (by decide) (fun h13 => ?_) (fun h13 => ?_)
                  · -- ¬ (fo a) = 15
                    refine lv_iconst (v := 0) hx hb d_Model_isBad_146 (by decide) ?_
                    refine W.zret hx hb hr (by decide) (fun t ht hW => ⟨_, rfl, ?_, ht⟩) (fun q h => by cases h) d_Model_isBad_147
                    show 0 = v_bad kd (nI n) (fo a) (fn a)
                    first | (simp only [v_bad, v_b18, v_b1, v_b2, v_b14, h1, h2, h3, h4, h5, h6, h9, h10, h13, if_true, if_false, eq_self, not_true_eq_false, not_false_eq_true, ne_eq]; done) | (simp only [v_bad, v_b18, v_b1, v_b2, v_b14, h1, h2, h3, h4, h5, h6, h9, h10, h13, if_true, if_false, eq_self, not_true_eq_false, not_false_eq_true, ne_eq]; rfl) | (simp [v_bad, v_b18, v_b1, v_b2, v_b14, h1, h2, h3, h4, h5, h6, h9, h10, h13]; done)
                  · -- (fo a) = 15
                    refine lv_iload_n hx hb d_Model_isBad_130 rfl (lv_at hl 0 rfl) ?_
                    refine lv_if_lt (tgt := 142) hx hb d_Model_isBad_131 (by decide) (fun h14 => ?_) (fun h14 => ?_)
                    · -- (fn a) < 0
                      refine lv_iconst (v := 1) hx hb d_Model_isBad_142 (by decide) ?_
                      refine lv_goto (tgt := 147) hx hb d_Model_isBad_143 (by decide) ?_
                      refine W.zret hx hb hr (by decide) (fun t ht hW => ⟨_, rfl, ?_, ht⟩) (fun q h => by cases h) d_Model_isBad_147
                      show 1 = v_bad kd (nI n) (fo a) (fn a)
                      first | (simp only [v_bad, v_b18, v_b1, v_b2, v_b14, h1, h2, h3, h4, h5, h6, h9, h10, h13, h14, if_true, if_false, eq_self, not_true_eq_false, not_false_eq_true, ne_eq]; done) | (simp only [v_bad, v_b18, v_b1, v_b2, v_b14, h1, h2, h3, h4, h5, h6, h9, h10, h13, h14, if_true, if_false, eq_self, not_true_eq_false, not_false_eq_true, ne_eq]; rfl) | (simp [v_bad, v_b18, v_b1, v_b2, v_b14, h1, h2, h3, h4, h5, h6, h9, h10, h13, h14]; done)
                    · -- ¬ (fn a) < 0
                      refine lv_iload_n hx hb d_Model_isBad_134 rfl (lv_at hl 0 rfl) ?_
                      refine lv_aload_n hx hb d_Model_isBad_135 rfl (lv_at hl 2 rfl) ?_
                      refine va_get (D := D) (ci := 4) (v := .int (nI n)) (C := R_Model) (T := F_Model) (N := 13) hx hb hts in_Model hown hE.1 hP 0 rfl rfl 3 (by decide) (hts _ k_319) (fun _ h9 => h9) rfl d_Model_isBad_136 ?_
                      refine lv_icmp_lt (tgt := 146) hx hb d_Model_isBad_139 (by decide) (fun h15 => ?_) (fun h15 => ?_)
                      · -- (fn a) < (nI n)
                        refine lv_iconst (v := 0) hx hb d_Model_isBad_146 (by decide) ?_
                        refine W.zret hx hb hr (by decide) (fun t ht hW => ⟨_, rfl, ?_, ht⟩) (fun q h => by cases h) d_Model_isBad_147
                        show 0 = v_bad kd (nI n) (fo a) (fn a)
                        first | (simp only [v_bad, v_b18, v_b1, v_b2, v_b14, h1, h2, h3, h4, h5, h6, h9, h10, h13, h14, h15, if_true, if_false, eq_self, not_true_eq_false, not_false_eq_true, ne_eq]; done) | (simp only [v_bad, v_b18, v_b1, v_b2, v_b14, h1, h2, h3, h4, h5, h6, h9, h10, h13, h14, h15, if_true, if_false, eq_self, not_true_eq_false, not_false_eq_true, ne_eq]; rfl) | (simp [v_bad, v_b18, v_b1, v_b2, v_b14, h1, h2, h3, h4, h5, h6, h9, h10, h13, h14, h15]; done)
                      · -- ¬ (fn a) < (nI n)
                        refine lv_iconst (v := 1) hx hb d_Model_isBad_142 (by decide) ?_
                        refine lv_goto (tgt := 147) hx hb d_Model_isBad_143 (by decide) ?_
                        refine W.zret hx hb hr (by decide) (fun t ht hW => ⟨_, rfl, ?_, ht⟩) (fun q h => by cases h) d_Model_isBad_147
                        show 1 = v_bad kd (nI n) (fo a) (fn a)
                        first | (simp only [v_bad, v_b18, v_b1, v_b2, v_b14, h1, h2, h3, h4, h5, h6, h9, h10, h13, h14, h15, if_true, if_false, eq_self, not_true_eq_false, not_false_eq_true, ne_eq]; done) | (simp only [v_bad, v_b18, v_b1, v_b2, v_b14, h1, h2, h3, h4, h5, h6, h9, h10, h13, h14, h15, if_true, if_false, eq_self, not_true_eq_false, not_false_eq_true, ne_eq]; rfl) | (simp [v_bad, v_b18, v_b1, v_b2, v_b14, h1, h2, h3, h4, h5, h6, h9, h10, h13, h14, h15]; done)
              · -- (fo a) = 3
                refine lv_iload_n hx hb d_Model_isBad_103 rfl (lv_at hl 0 rfl) ?_
                refine lv_if_lt (tgt := 112) hx hb d_Model_isBad_104 (by decide) (fun h16 => ?_) (fun h16 => ?_)
                · -- (fn a) < 0
                  refine lv_iconst (v := 1) hx hb d_Model_isBad_112 (by decide) ?_
                  refine lv_goto (tgt := 117) hx hb d_Model_isBad_113 (by decide) ?_
                  refine W.zret hx hb hr (by decide) (fun t ht hW => ⟨_, rfl, ?_, ht⟩) (fun q h => by cases h) d_Model_isBad_117
                  show 1 = v_bad kd (nI n) (fo a) (fn a)
                  first | (simp only [v_bad, v_b18, v_b1, v_b2, v_b14, h1, h2, h3, h4, h5, h6, h9, h16, if_true, if_false, eq_self, not_true_eq_false, not_false_eq_true, ne_eq]; done) | (simp only [v_bad, v_b18, v_b1, v_b2, v_b14, h1, h2, h3, h4, h5, h6, h9, h16, if_true, if_false, eq_self, not_true_eq_false, not_false_eq_true, ne_eq]; rfl) | (simp [v_bad, v_b18, v_b1, v_b2, v_b14, h1, h2, h3, h4, h5, h6, h9, h16]; done)
                · -- ¬ (fn a) < 0
                  refine lv_iload_n hx hb d_Model_isBad_107 rfl (lv_at hl 0 rfl) ?_
                  refine lv_iconst (v := 3) hx hb d_Model_isBad_108 (by decide) ?_
                  refine lv_icmp_le (tgt := 116) hx hb d_Model_isBad_109 (by decide) (fun h17 => ?_) (fun h17 => ?_)
                  · -- (fn a) ≤ 3
                    refine lv_iconst (v := 0) hx hb d_Model_isBad_116 (by decide) ?_
                    refine W.zret hx hb hr (by decide) (fun t ht hW => ⟨_, rfl, ?_, ht⟩) (fun q h => by cases h) d_Model_isBad_117
                    show 0 = v_bad kd (nI n) (fo a) (fn a)
                    first | (simp only [v_bad, v_b18, v_b1, v_b2, v_b14, h1, h2, h3, h4, h5, h6, h9, h16, h17, if_true, if_false, eq_self, not_true_eq_false, not_false_eq_true, ne_eq]; done) | (simp only [v_bad, v_b18, v_b1, v_b2, v_b14, h1, h2, h3, h4, h5, h6, h9, h16, h17, if_true, if_false, eq_self, not_true_eq_false, not_false_eq_true, ne_eq]; rfl) | (simp [v_bad, v_b18, v_b1, v_b2, v_b14, h1, h2, h3, h4, h5, h6, h9, h16, h17]; done)
                  · -- ¬ (fn a) ≤ 3
                    refine lv_iconst (v := 1) hx hb d_Model_isBad_112 (by decide) ?_
                    refine lv_goto (tgt := 117) hx hb d_Model_isBad_113 (by decide) ?_
                    refine W.zret hx hb hr (by decide) (fun t ht hW => ⟨_, rfl, ?_, ht⟩) (fun q h => by cases h) d_Model_isBad_117
                    show 1 = v_bad kd (nI n) (fo a) (fn a)
                    first | (simp only [v_bad, v_b18, v_b1, v_b2, v_b14, h1, h2, h3, h4, h5, h6, h9, h16, h17, if_true, if_false, eq_self, not_true_eq_false, not_false_eq_true, ne_eq]; done) | (simp only [v_bad, v_b18, v_b1, v_b2, v_b14, h1, h2, h3, h4, h5, h6, h9, h16, h17, if_true, if_false, eq_self, not_true_eq_false, not_false_eq_true, ne_eq]; rfl) | (simp [v_bad, v_b18, v_b1, v_b2, v_b14, h1, h2, h3, h4, h5, h6, h9, h16, h17]; done)
          · -- (fo a) = 1
            refine lv_iload_n hx hb d_Model_isBad_58 rfl (lv_at hl 0 rfl) ?_
            refine lv_if_lt (tgt := 87) hx hb d_Model_isBad_59 (by decide) (fun h18 => ?_) (fun h18 => ?_)
            · -- (fn a) < 0
              refine lv_iconst (v := 1) hx hb d_Model_isBad_87 (by decide) ?_
              refine lv_goto (tgt := 92) hx hb d_Model_isBad_88 (by decide) ?_
              refine W.zret hx hb hr (by decide) (fun t ht hW => ⟨_, rfl, ?_, ht⟩) (fun q h => by cases h) d_Model_isBad_92
              show 1 = v_bad kd (nI n) (fo a) (fn a)
              first | (simp only [v_bad, v_b18, v_b1, v_b2, v_b14, h1, h2, h3, h4, h5, h18, if_true, if_false, eq_self, not_true_eq_false, not_false_eq_true, ne_eq]; done) | (simp only [v_bad, v_b18, v_b1, v_b2, v_b14, h1, h2, h3, h4, h5, h18, if_true, if_false, eq_self, not_true_eq_false, not_false_eq_true, ne_eq]; rfl) | (simp [v_bad, v_b18, v_b1, v_b2, v_b14, h1, h2, h3, h4, h5, h18]; done)
            · -- ¬ (fn a) < 0
              refine lv_iload_n hx hb d_Model_isBad_62 rfl (lv_at hl 0 rfl) ?_
              refine lv_iconst (v := 2) hx hb d_Model_isBad_63 (by decide) ?_
              refine lv_icmp_gt (tgt := 87) hx hb d_Model_isBad_64 (by decide) (fun h19 => ?_) (fun h19 => ?_)
              · -- 2 < (fn a)
                refine lv_iconst (v := 1) hx hb d_Model_isBad_87 (by decide) ?_
                refine lv_goto (tgt := 92) hx hb d_Model_isBad_88 (by decide) ?_
                refine W.zret hx hb hr (by decide) (fun t ht hW => ⟨_, rfl, ?_, ht⟩) (fun q h => by cases h) d_Model_isBad_92
                show 1 = v_bad kd (nI n) (fo a) (fn a)
                first | (simp only [v_bad, v_b18, v_b1, v_b2, v_b14, h1, h2, h3, h4, h5, h18, h19, if_true, if_false, eq_self, not_true_eq_false, not_false_eq_true, ne_eq]; done) | (simp only [v_bad, v_b18, v_b1, v_b2, v_b14, h1, h2, h3, h4, h5, h18, h19, if_true, if_false, eq_self, not_true_eq_false, not_false_eq_true, ne_eq]; rfl) | (simp [v_bad, v_b18, v_b1, v_b2, v_b14, h1, h2, h3, h4, h5, h18, h19]; done)
              · -- ¬ 2 < (fn a)
                refine lv_iload_n hx hb d_Model_isBad_67 rfl (lv_at hl 0 rfl) ?_
                refine lv_iconst (v := 2) hx hb d_Model_isBad_68 (by decide) ?_
                refine lv_icmp_ne (tgt := 91) hx hb d_Model_isBad_69 (by decide) (fun h20 => ?_) (fun h20 => ?_)
                · -- ¬ (fn a) = 2
                  refine lv_iconst (v := 0) hx hb d_Model_isBad_91 (by decide) ?_
                  refine W.zret hx hb hr (by decide) (fun t ht hW => ⟨_, rfl, ?_, ht⟩) (fun q h => by cases h) d_Model_isBad_92
                  show 0 = v_bad kd (nI n) (fo a) (fn a)
                  first | (simp only [v_bad, v_b18, v_b1, v_b2, v_b14, h1, h2, h3, h4, h5, h18, h19, h20, if_true, if_false, eq_self, not_true_eq_false, not_false_eq_true, ne_eq]; done) | (simp only [v_bad, v_b18, v_b1, v_b2, v_b14, h1, h2, h3, h4, h5, h18, h19, h20, if_true, if_false, eq_self, not_true_eq_false, not_false_eq_true, ne_eq]; rfl) | (simp [v_bad, v_b18, v_b1, v_b2, v_b14, h1, h2, h3, h4, h5, h18, h19, h20]; done)
                · -- (fn a) = 2
                  refine lv_aload_n hx hb d_Model_isBad_72 rfl (lv_at hl 2 rfl) ?_
                  refine va_get (D := D) (ci := 4) (v := .int kd) (C := R_Model) (T := F_Model) (N := 13) hx hb hts in_Model hown hE.1 hP 0 rfl rfl 0 (by decide) (hts _ k_316) (fun _ h9 => h9) rfl d_Model_isBad_73 ?_
                  refine lv_if_eq (tgt := 87) hx hb d_Model_isBad_76 (by decide) (fun h21 => ?_) (fun h21 => ?_)
                  · -- kd = 0
                    refine lv_iconst (v := 1) hx hb d_Model_isBad_87 (by decide) ?_
                    refine lv_goto (tgt := 92) hx hb d_Model_isBad_88 (by decide) ?_
                    refine W.zret hx hb hr (by decide) (fun t ht hW => ⟨_, rfl, ?_, ht⟩) (fun q h => by cases h) d_Model_isBad_92
                    show 1 = v_bad kd (nI n) (fo a) (fn a)
                    first | (simp only [v_bad, v_b18, v_b1, v_b2, v_b14, h1, h2, h3, h4, h5, h18, h19, h20, h21, if_true, if_false, eq_self, not_true_eq_false, not_false_eq_true, ne_eq]; done) | (simp only [v_bad, v_b18, v_b1, v_b2, v_b14, h1, h2, h3, h4, h5, h18, h19, h20, h21, if_true, if_false, eq_self, not_true_eq_false, not_false_eq_true, ne_eq]; rfl) | (simp [v_bad, v_b18, v_b1, v_b2, v_b14, h1, h2, h3, h4, h5, h18, h19, h20, h21]; done)
                  · -- ¬ kd = 0
                    refine lv_aload_n hx hb d_Model_isBad_79 rfl (lv_at hl 2 rfl) ?_
                    refine va_get (D := D) (ci := 4) (v := .int kd) (C := R_Model) (T := F_Model) (N := 13) hx hb hts in_Model hown hE.1 hP 0 rfl rfl 0 (by decide) (hts _ k_316) (fun _ h9 => h9) rfl d_Model_isBad_80 ?_
                    refine lv_iconst (v := 3) hx hb d_Model_isBad_83 (by decide) ?_
                    refine lv_icmp_ne (tgt := 91) hx hb d_Model_isBad_84 (by decide) (fun h22 => ?_) (fun h22 => ?_)
                    · -- ¬ kd = 3
                      refine lv_iconst (v := 0) hx hb d_Model_isBad_91 (by decide) ?_
                      refine W.zret hx hb hr (by decide) (fun t ht hW => ⟨_, rfl, ?_, ht⟩) (fun q h => by cases h) d_Model_isBad_92
                      show 0 = v_bad kd (nI n) (fo a) (fn a)
                      first | (simp only [v_bad, v_b18, v_b1, v_b2, v_b14, h1, h2, h3, h4, h5, h18, h19, h20, h21, h22, if_true, if_false, eq_self, not_true_eq_false, not_false_eq_true, ne_eq]; done) | (simp only [v_bad, v_b18, v_b1, v_b2, v_b14, h1, h2, h3, h4, h5, h18, h19, h20, h21, h22, if_true, if_false, eq_self, not_true_eq_false, not_false_eq_true, ne_eq]; rfl) | (simp [v_bad, v_b18, v_b1, v_b2, v_b14, h1, h2, h3, h4, h5, h18, h19, h20, h21, h22]; done)
                    · -- kd = 3
                      refine lv_iconst (v := 1) hx hb d_Model_isBad_87 (by decide) ?_
                      refine lv_goto (tgt := 92) hx hb d_Model_isBad_88 (by decide) ?_
                      refine W.zret hx hb hr (by decide) (fun t ht hW => ⟨_, rfl, ?_, ht⟩) (fun q h => by cases h) d_Model_isBad_92
                      show 1 = v_bad kd (nI n) (fo a) (fn a)
                      first | (simp only [v_bad, v_b18, v_b1, v_b2, v_b14, h1, h2, h3, h4, h5, h18, h19, h20, h21, h22, if_true, if_false, eq_self, not_true_eq_false, not_false_eq_true, ne_eq]; done) | (simp only [v_bad, v_b18, v_b1, v_b2, v_b14, h1, h2, h3, h4, h5, h18, h19, h20, h21, h22, if_true, if_false, eq_self, not_true_eq_false, not_false_eq_true, ne_eq]; rfl) | (simp [v_bad, v_b18, v_b1, v_b2, v_b14, h1, h2, h3, h4, h5, h18, h19, h20, h21, h22]; done)
        · -- (fo a) = 18
          refine lv_aload_n hx hb d_Model_isBad_43 rfl (lv_at hl 2 rfl) ?_
          refine va_get (D := D) (ci := 4) (v := .int kd) (C := R_Model) (T := F_Model) (N := 13) hx hb hts in_Model hown hE.1 hP 0 rfl rfl 0 (by decide) (hts _ k_316) (fun _ h9 => h9) rfl d_Model_isBad_44 ?_
          refine lv_iconst (v := 3) hx hb d_Model_isBad_47 (by decide) ?_
          refine lv_icmp_eq (tgt := 53) hx hb d_Model_isBad_48 (by decide) (fun h23 => ?_) (fun h23 => ?_)
          · -- kd = 3
            refine lv_iload_n hx hb d_Model_isBad_53 rfl (lv_at hl 1 rfl) ?_
            refine lv_iconst (v := 1) hx hb d_Model_isBad_54 (by decide) ?_
            refine lv_icmp_ne (tgt := 93) hx hb d_Model_isBad_55 (by decide) (fun h24 => ?_) (fun h24 => ?_)
            · -- ¬ (fo a) = 1
              refine lv_iload_n hx hb d_Model_isBad_93 rfl (lv_at hl 1 rfl) ?_
              refine lv_iconst (v := 2) hx hb d_Model_isBad_94 (by decide) ?_
              refine lv_icmp_eq (tgt := 103) hx hb d_Model_isBad_95 (by decide) (fun h25 => ?_) (fun h25 => ?_)
              · -- (fo a) = 2
                exact absurd h25 (by rw [h4]; first | done | decide)
              · -- ¬ (fo a) = 2
                refine lv_iload_n hx hb d_Model_isBad_98 rfl (lv_at hl 1 rfl) ?_
                refine lv_iconst (v := 3) hx hb d_Model_isBad_99 (by decide) ?_
                refine lv_icmp_ne (tgt := 118) hx hb d_Model_isBad_100 (by decide) (fun h26 => ?_) (fun h26 => ?_)
                · -- ¬ (fo a) = 3
                  refine lv_iload_n hx hb d_Model_isBad_118 rfl (lv_at hl 1 rfl) ?_
                  refine lv_bipush (v := 14) hx hb d_Model_isBad_119 (by decide) ?_
                  refine lv_icmp_eq (tgt := 130) hx hb d_Model_isBad_121 (by decide) (fun h27 => ?_) (fun h27 => ?_)
                  · -- (fo a) = 14
                    exact absurd h27 (by rw [h4]; first | done | decide)
                  · -- ¬ (fo a) = 14
                    refine lv_iload_n hx hb d_Model_isBad_124 rfl (lv_at hl 1 rfl) ?_
                    refine lv_bipush (v := 15) hx hb d_Model_isBad_125 (by decide) ?_
                    refine lv_icmp_ne (tgt := 146) hx hb d_Model_isBad_127 (by decide) (fun h28 => ?_) (fun h28 => ?_)
                    · -- ¬ (fo a) = 15
                      refine lv_iconst (v := 0) hx hb d_Model_isBad_146 (by decide) ?_
                      refine W.zret hx hb hr (by decide) (fun t ht hW => ⟨_, rfl, ?_, ht⟩) (fun q h => by cases h) d_Model_isBad_147
                      show 0 = v_bad kd (nI n) (fo a) (fn a)
                      first | (simp only [v_bad, v_b18, v_b1, v_b2, v_b14, h1, h2, h3, h4, h23, h24, h25, h26, h27, h28, if_true, if_false, eq_self, not_true_eq_false, not_false_eq_true, ne_eq]; done) | (simp only [v_bad, v_b18, v_b1, v_b2, v_b14, h1, h2, h3, h4, h23, h24, h25, h26, h27, h28, if_true, if_false, eq_self, not_true_eq_false, not_false_eq_true, ne_eq]; rfl) | (simp [v_bad, v_b18, v_b1, v_b2, v_b14, h1, h2, h3, h4, h23, h24, h25, h26, h27, h28]; done)
                    · -- (fo a) = 15
                      exact absurd h28 (by rw [h4]; first | done | decide)
                · -- (fo a) = 3
                  exact absurd h26 (by rw [h4]; first | done | decide)
            · -- (fo a) = 1
              exact absurd h24 (by rw [h4]; first | done | decide)
          · -- ¬ kd = 3
            refine lv_iconst (v := 1) hx hb d_Model_isBad_51 (by decide) ?_
            refine W.zret hx hb hr (by decide) (fun t ht hW => ⟨_, rfl, ?_, ht⟩) (fun q h => by cases h) d_Model_isBad_52
            show 1 = v_bad kd (nI n) (fo a) (fn a)
            first | (simp only [v_bad, v_b18, v_b1, v_b2, v_b14, h1, h2, h3, h4, h23, if_true, if_false, eq_self, not_true_eq_false, not_false_eq_true, ne_eq]; done) | (simp only [v_bad, v_b18, v_b1, v_b2, v_b14, h1, h2, h3, h4, h23, if_true, if_false, eq_self, not_true_eq_false, not_false_eq_true, ne_eq]; rfl) | (simp [v_bad, v_b18, v_b1, v_b2, v_b14, h1, h2, h3, h4, h23]; done)
      · -- (fo a) = 16
        refine lv_aload_n hx hb d_Model_isBad_30 rfl (lv_at hl 2 rfl) ?_
        refine va_get (D := D) (ci := 4) (v := .int kd) (C := R_Model) (T := F_Model) (N := 13) hx hb hts in_Model hown hE.1 hP 0 rfl rfl 0 (by decide) (hts _ k_316) (fun _ h9 => h9) rfl d_Model_isBad_31 ?_
        refine lv_if_ne (tgt := 51) hx hb d_Model_isBad_34 (by decide) (fun h29 => ?_) (fun h29 => ?_)
        · -- ¬ kd = 0
          refine lv_iconst (v := 1) hx hb d_Model_isBad_51 (by decide) ?_
          refine W.zret hx hb hr (by decide) (fun t ht hW => ⟨_, rfl, ?_, ht⟩) (fun q h => by cases h) d_Model_isBad_52
          show 1 = v_bad kd (nI n) (fo a) (fn a)
          first | (simp only [v_bad, v_b18, v_b1, v_b2, v_b14, h1, h2, h3, h29, if_true, if_false, eq_self, not_true_eq_false, not_false_eq_true, ne_eq]; done) | (simp only [v_bad, v_b18, v_b1, v_b2, v_b14, h1, h2, h3, h29, if_true, if_false, eq_self, not_true_eq_false, not_false_eq_true, ne_eq]; rfl) | (simp [v_bad, v_b18, v_b1, v_b2, v_b14, h1, h2, h3, h29]; done)
        · -- kd = 0
          refine lv_iload_n hx hb d_Model_isBad_37 rfl (lv_at hl 1 rfl) ?_
          refine lv_bipush (v := 18) hx hb d_Model_isBad_38 (by decide) ?_
          refine lv_icmp_ne (tgt := 53) hx hb d_Model_isBad_40 (by decide) (fun h30 => ?_) (fun h30 => ?_)
          · -- ¬ (fo a) = 18
            refine lv_iload_n hx hb d_Model_isBad_53 rfl (lv_at hl 1 rfl) ?_
            refine lv_iconst (v := 1) hx hb d_Model_isBad_54 (by decide) ?_
            refine lv_icmp_ne (tgt := 93) hx hb d_Model_isBad_55 (by decide) (fun h31 => ?_) (fun h31 => ?_)
            · -- ¬ (fo a) = 1
              refine lv_iload_n hx hb d_Model_isBad_93 rfl (lv_at hl 1 rfl) ?_
              refine lv_iconst (v := 2) hx hb d_Model_isBad_94 (by decide) ?_
              refine lv_icmp_eq (tgt := 103) hx hb d_Model_isBad_95 (by decide) (fun h32 => ?_) (fun h32 => ?_)
              · -- (fo a) = 2
                exact absurd h32 (by rw [h3]; first | done | decide)
              · -- ¬ (fo a) = 2
                refine lv_iload_n hx hb d_Model_isBad_98 rfl (lv_at hl 1 rfl) ?_
                refine lv_iconst (v := 3) hx hb d_Model_isBad_99 (by decide) ?_
                refine lv_icmp_ne (tgt := 118) hx hb d_Model_isBad_100 (by decide) (fun h33 => ?_) (fun h33 => ?_)
                · -- ¬ (fo a) = 3
                  refine lv_iload_n hx hb d_Model_isBad_118 rfl (lv_at hl 1 rfl) ?_
                  refine lv_bipush (v := 14) hx hb d_Model_isBad_119 (by decide) ?_
                  refine lv_icmp_eq (tgt := 130) hx hb d_Model_isBad_121 (by decide) (fun h34 => ?_) (fun h34 => ?_)
                  · -- (fo a) = 14
                    exact absurd h34 (by rw [h3]; first | done | decide)
                  · -- ¬ (fo a) = 14
                    refine lv_iload_n hx hb d_Model_isBad_124 rfl (lv_at hl 1 rfl) ?_
                    refine lv_bipush (v := 15) hx hb d_Model_isBad_125 (by decide) ?_
                    refine lv_icmp_ne (tgt := 146) hx hb d_Model_isBad_127 (by decide) (fun h35 => ?_) (fun h35 => ?_)
                    · -- ¬ (fo a) = 15
                      refine lv_iconst (v := 0) hx hb d_Model_isBad_146 (by decide) ?_
                      refine W.zret hx hb hr (by decide) (fun t ht hW => ⟨_, rfl, ?_, ht⟩) (fun q h => by cases h) d_Model_isBad_147
                      show 0 = v_bad kd (nI n) (fo a) (fn a)
                      first | (simp only [v_bad, v_b18, v_b1, v_b2, v_b14, h1, h2, h3, h29, h30, h31, h32, h33, h34, h35, if_true, if_false, eq_self, not_true_eq_false, not_false_eq_true, ne_eq]; done) | (simp only [v_bad, v_b18, v_b1, v_b2, v_b14, h1, h2, h3, h29, h30, h31, h32, h33, h34, h35, if_true, if_false, eq_self, not_true_eq_false, not_false_eq_true, ne_eq]; rfl) | (simp [v_bad, v_b18, v_b1, v_b2, v_b14, h1, h2, h3, h29, h30, h31, h32, h33, h34, h35]; done)
                    · -- (fo a) = 15
                      exact absurd h35 (by rw [h3]; first | done | decide)
                · -- (fo a) = 3
                  exact absurd h33 (by rw [h3]; first | done | decide)
            · -- (fo a) = 1
              exact absurd h31 (by rw [h3]; first | done | decide)
          · -- (fo a) = 18
            exact absurd h30 (by rw [h3]; first | done | decide)
set_option maxHeartbeats 4000000 in
set_option maxRecDepth 100000 in
theorem c_Model_needs (l : Launch) (D : va_G) (cI cZ : ClassId) (mo mp mq mr mw mt ml mk mv : Nat) (kd : Int32) (n : Nat) (fo fn fR fW fs fl fk fv : Nat → Int32) (em sp rs : Int32) (o : Int32) : Met l y_Model_needs w_Model_needs (rmk 0) (va_Pc [.ref mo, .int o] (PY D cI cZ [(mo, .inr (4, [.int kd, .ref mp, .ref mq, .int (nI n), .ref mr, .ref mw, .ref mt, .ref ml, .ref mk, .ref mv, .int em, .int sp, .int rs])), (mp, .inl (cI, 64, .inl fo)), (mq, .inl (cI, 64, .inl fn)), (mr, .inl (cI, 576, .inl fR)), (mw, .inl (cZ, 64, .inl fW)), (mt, .inl (cI, 8, .inl fs)), (ml, .inl (cI, 4, .inl fl)), (mk, .inl (cI, 20, .inl fk)), (mv, .inl (cI, 20, .inl fv))])) (vp_Si (fun r => r = v_needs kd o)) 0 0 (fun _ => False) := by
  refine Met.ofW (cc := b_Model_needs) (maxL := 2) (ret := (some .int)) (by decide) rfl ?_
  intro p e s m args below meth c s₁ B hml hv
  obtain ⟨rfl, hP, hE⟩ := hv
  have hx := B.exec
  have hb := B.bytes
  have hr := B.returns
  have hts : ∀ w ∈ gW, w.before _ s = true := fun w h => atoms_spec (ws := w_Model_needs) B.pre w (List.mem_cons_of_mem _ h)
  have hown : s.vm.findClass R_Model = some m.cls := findClass_of_methodNamed B.named
  have hlocks := B.notSynchronized
  have hS : va_S (fun _ => False) s.heap s.heap [] := va_S.rf
  have hP : va_P D classes [(mo, .inr (4, [.int kd, .ref mp, .ref mq, .int (nI n), .ref mr, .ref mw, .ref mt, .ref ml, .ref mk, .ref mv, .int em, .int sp, .int rs])), (mp, .inl (cI, 64, .inl fo)), (mq, .inl (cI, 64, .inl fn)), (mr, .inl (cI, 576, .inl fR)), (mw, .inl (cZ, 64, .inl fW)), (mt, .inl (cI, 8, .inl fs)), (ml, .inl (cI, 4, .inl fl)), (mk, .inl (cI, 20, .inl fk)), (mv, .inl (cI, 20, .inl fv))] s.heap := hP
  have hl := lv_entry ([.ref mo, .int o]) (n := 2) (Nat.le_of_ble_eq_true rfl)
  rw [lg_entry_eq]
  generalize (lg_sl ([.ref mo, .int o]) ++ List.replicate (2 - (lg_sl ([.ref mo, .int o])).length) Slot.unset).toArray = ls at hl ⊢
  have hl : lv_has ls 2 [(0, .ref mo), (1, .int o)] := hl
  refine lv_iload_n hx hb d_Model_needs_0 rfl (lv_at hl 1 rfl) ?_
  refine lv_iconst (v := 5) hx hb d_Model_needs_1 (by decide) ?_
  refine lv_icmp_eq (tgt := 23) hx hb d_Model_needs_2 (by decide) (fun h1 => ?_) (fun h1 => ?_)
  · -- o = 5
    refine lv_iconst (v := 2) hx hb d_Model_needs_23 (by decide) ?_
    refine W.iret hx hb hr (fun t ht hW => ⟨_, rfl, ?_, ht⟩) (fun q h => by cases h) d_Model_needs_24
    show 2 = v_needs kd o
    first | (simp only [v_needs, v_n3, h1, if_true, if_false, eq_self, not_true_eq_false, not_false_eq_true, ne_eq]; done) | (simp only [v_needs, v_n3, h1, if_true, if_false, eq_self, not_true_eq_false, not_false_eq_true, ne_eq]; rfl) | (simp [v_needs, v_n3, h1]; done)
  · -- ¬ o = 5
    refine lv_iload_n hx hb d_Model_needs_5 rfl (lv_at hl 1 rfl) ?_
    refine lv_bipush (v := 7) hx hb d_Model_needs_6 (by decide) ?_
    refine lv_icmp_lt (tgt := 17) hx hb d_Model_needs_8 (by decide) (fun h2 => ?_) (fun h2 => ?_)
    · -- o < 7
      refine lv_iload_n hx hb d_Model_needs_17 rfl (lv_at hl 1 rfl) ?_
      refine lv_bipush (v := 16) hx hb d_Model_needs_18 (by decide) ?_
      refine lv_icmp_ne (tgt := 25) hx hb d_Model_needs_20 (by decide) (fun h3 => ?_) (fun h3 => ?_)
      · -- ¬ o = 16
        refine lv_iload_n hx hb d_Model_needs_25 rfl (lv_at hl 1 rfl) ?_
        refine lv_iconst (v := 3) hx hb d_Model_needs_26 (by decide) ?_
        refine lv_icmp_eq (tgt := 47) hx hb d_Model_needs_27 (by decide) (fun h4 => ?_) (fun h4 => ?_)
        · -- o = 3
          refine lv_iconst (v := 1) hx hb d_Model_needs_47 (by decide) ?_
          refine W.iret hx hb hr (fun t ht hW => ⟨_, rfl, ?_, ht⟩) (fun q h => by cases h) d_Model_needs_48
          show 1 = v_needs kd o
          first | (simp only [v_needs, v_n3, h1, h2, h3, h4, if_true, if_false, eq_self, not_true_eq_false, not_false_eq_true, ne_eq]; done) | (simp only [v_needs, v_n3, h1, h2, h3, h4, if_true, if_false, eq_self, not_true_eq_false, not_false_eq_true, ne_eq]; rfl) | (simp [v_needs, v_n3, h1, h2, h3, h4]; done)
        · -- ¬ o = 3
          refine lv_iload_n hx hb d_Model_needs_30 rfl (lv_at hl 1 rfl) ?_
          refine lv_iconst (v := 4) hx hb d_Model_needs_31 (by decide) ?_
          refine lv_icmp_eq (tgt := 47) hx hb d_Model_needs_32 (by decide) (fun h5 => ?_) (fun h5 => ?_)
          · -- o = 4
            refine lv_iconst (v := 1) hx hb d_Model_needs_47 (by decide) ?_
            refine W.iret hx hb hr (fun t ht hW => ⟨_, rfl, ?_, ht⟩) (fun q h => by cases h) d_Model_needs_48
            show 1 = v_needs kd o
            first | (simp only [v_needs, v_n3, h1, h2, h3, h4, h5, if_true, if_false, eq_self, not_true_eq_false, not_false_eq_true, ne_eq]; done) | (simp only [v_needs, v_n3, h1, h2, h3, h4, h5, if_true, if_false, eq_self, not_true_eq_false, not_false_eq_true, ne_eq]; rfl) | (simp [v_needs, v_n3, h1, h2, h3, h4, h5]; done)
          · -- ¬ o = 4
            refine lv_iload_n hx hb d_Model_needs_35 rfl (lv_at hl 1 rfl) ?_
            refine lv_bipush (v := 6) hx hb d_Model_needs_36 (by decide) ?_
            refine lv_icmp_eq (tgt := 47) hx hb d_Model_needs_38 (by decide) (fun h6 => ?_) (fun h6 => ?_)
            · -- o = 6
              refine lv_iconst (v := 1) hx hb d_Model_needs_47 (by decide) ?_
              refine W.iret hx hb hr (fun t ht hW => ⟨_, rfl, ?_, ht⟩) (fun q h => by cases h) d_Model_needs_48
              show 1 = v_needs kd o
              first | (simp only [v_needs, v_n3, h1, h2, h3, h4, h5, h6, if_true, if_false, eq_self, not_true_eq_false, not_false_eq_true, ne_eq]; done) | (simp only [v_needs, v_n3, h1, h2, h3, h4, h5, h6, if_true, if_false, eq_self, not_true_eq_false, not_false_eq_true, ne_eq]; rfl) | (simp [v_needs, v_n3, h1, h2, h3, h4, h5, h6]; done)
            · -- ¬ o = 6
              refine lv_iload_n hx hb d_Model_needs_41 rfl (lv_at hl 1 rfl) ?_
              refine lv_bipush (v := 15) hx hb d_Model_needs_42 (by decide) ?_
              refine lv_icmp_ne (tgt := 49) hx hb d_Model_needs_44 (by decide) (fun h7 => ?_) (fun h7 => ?_)
              · -- ¬ o = 15
                refine lv_iload_n hx hb d_Model_needs_49 rfl (lv_at hl 1 rfl) ?_
                refine lv_bipush (v := 17) hx hb d_Model_needs_50 (by decide) ?_
                refine lv_icmp_ne (tgt := 66) hx hb d_Model_needs_52 (by decide) (fun h8 => ?_) (fun h8 => ?_)
                · -- ¬ o = 17
                  refine lv_iconst (v := 0) hx hb d_Model_needs_66 (by decide) ?_
                  refine W.iret hx hb hr (fun t ht hW => ⟨_, rfl, ?_, ht⟩) (fun q h => by cases h) d_Model_needs_67
                  show 0 = v_needs kd o
                  first | (simp only [v_needs, v_n3, h1, h2, h3, h4, h5, h6, h7, h8, if_true, if_false, eq_self, not_true_eq_false, not_false_eq_true, ne_eq]; done) | (simp only [v_needs, v_n3, h1, h2, h3, h4, h5, h6, h7, h8, if_true, if_false, eq_self, not_true_eq_false, not_false_eq_true, ne_eq]; rfl) | (simp [v_needs, v_n3, h1, h2, h3, h4, h5, h6, h7, h8]; done)
                · -- o = 17
                  exact absurd h2 (by rw [h8]; first | done | decide)
              · -- o = 15
                exact absurd h2 (by rw [h7]; first | done | decide)
      · -- o = 16
        exact absurd h2 (by rw [h3]; first | done | decide)
    · -- ¬ o < 7
      refine lv_iload_n hx hb d_Model_needs_11 rfl (lv_at hl 1 rfl) ?_
      refine lv_bipush (v := 13) hx hb d_Model_needs_12 (by decide) ?_
      refine lv_icmp_le (tgt := 23) hx hb d_Model_needs_14 (by decide) (fun h9 => ?_) (fun h9 => ?_)
      · -- o ≤ 13
        refine lv_iconst (v := 2) hx hb d_Model_needs_23 (by decide) ?_
        refine W.iret hx hb hr (fun t ht hW => ⟨_, rfl, ?_, ht⟩) (fun q h => by cases h) d_Model_needs_24
        show 2 = v_needs kd o
        first | (simp only [v_needs, v_n3, h1, h2, h9, if_true, if_false, eq_self, not_true_eq_false, not_false_eq_true, ne_eq]; done) | (simp only [v_needs, v_n3, h1, h2, h9, if_true, if_false, eq_self, not_true_eq_false, not_false_eq_true, ne_eq]; rfl) | (simp [v_needs, v_n3, h1, h2, h9]; done)
      · -- ¬ o ≤ 13
        refine lv_iload_n hx hb d_Model_needs_17 rfl (lv_at hl 1 rfl) ?_
        refine lv_bipush (v := 16) hx hb d_Model_needs_18 (by decide) ?_
        refine lv_icmp_ne (tgt := 25) hx hb d_Model_needs_20 (by decide) (fun h10 => ?_) (fun h10 => ?_)
        · -- ¬ o = 16
          refine lv_iload_n hx hb d_Model_needs_25 rfl (lv_at hl 1 rfl) ?_
          refine lv_iconst (v := 3) hx hb d_Model_needs_26 (by decide) ?_
          refine lv_icmp_eq (tgt := 47) hx hb d_Model_needs_27 (by decide) (fun h11 => ?_) (fun h11 => ?_)
          · -- o = 3
            exact absurd (by rw [h11]; first | done | decide) h2
          · -- ¬ o = 3
            refine lv_iload_n hx hb d_Model_needs_30 rfl (lv_at hl 1 rfl) ?_
            refine lv_iconst (v := 4) hx hb d_Model_needs_31 (by decide) ?_
            refine lv_icmp_eq (tgt := 47) hx hb d_Model_needs_32 (by decide) (fun h12 => ?_) (fun h12 => ?_)
            · -- o = 4
              exact absurd (by rw [h12]; first | done | decide) h2
            · -- ¬ o = 4
              refine lv_iload_n hx hb d_Model_needs_35 rfl (lv_at hl 1 rfl) ?_
              refine lv_bipush (v := 6) hx hb d_Model_needs_36 (by decide) ?_
              refine lv_icmp_eq (tgt := 47) hx hb d_Model_needs_38 (by decide) (fun h13 => ?_) (fun h13 => ?_)
              · -- o = 6
                exact absurd (by rw [h13]; first | done | decide) h2
              · -- ¬ o = 6
                refine lv_iload_n hx hb d_Model_needs_41 rfl (lv_at hl 1 rfl) ?_
                refine lv_bipush (v := 15) hx hb d_Model_needs_42 (by decide) ?_
                refine lv_icmp_ne (tgt := 49) hx hb d_Model_needs_44 (by decide) (fun h14 => ?_) (fun h14 => ?_)
                · -- ¬ o = 15
                  refine lv_iload_n hx hb d_Model_needs_49 rfl (lv_at hl 1 rfl) ?_
                  refine lv_bipush (v := 17) hx hb d_Model_needs_50 (by decide) ?_
                  refine lv_icmp_ne (tgt := 66) hx hb d_Model_needs_52 (by decide) (fun h15 => ?_) (fun h15 => ?_)
                  · -- ¬ o = 17
                    refine lv_iconst (v := 0) hx hb d_Model_needs_66 (by decide) ?_
                    refine W.iret hx hb hr (fun t ht hW => ⟨_, rfl, ?_, ht⟩) (fun q h => by cases h) d_Model_needs_67
                    show 0 = v_needs kd o
                    first | (simp only [v_needs, v_n3, h1, h2, h9, h10, h11, h12, h13, h14, h15, if_true, if_false, eq_self, not_true_eq_false, not_false_eq_true, ne_eq]; done) | (simp only [v_needs, v_n3, h1, h2, h9, h10, h11, h12, h13, h14, h15, if_true, if_false, eq_self, not_true_eq_false, not_false_eq_true, ne_eq]; rfl) | (simp [v_needs, v_n3, h1, h2, h9, h10, h11, h12, h13, h14, h15]; done)
                  · -- o = 17
                    refine lv_aload_n hx hb d_Model_needs_55 rfl (lv_at hl 0 rfl) ?_
                    refine va_get (D := D) (ci := 4) (v := .int kd) (C := R_Model) (T := F_Model) (N := 13) hx hb hts in_Model hown hE.1 hP 0 rfl rfl 0 (by decide) (hts _ k_316) (fun _ h9 => h9) rfl d_Model_needs_56 ?_
                    refine lv_if_eq (tgt := 66) hx hb d_Model_needs_59 (by decide) (fun h16 => ?_) (fun h16 => ?_)
                    · -- kd = 0
                      refine lv_iconst (v := 0) hx hb d_Model_needs_66 (by decide) ?_
                      refine W.iret hx hb hr (fun t ht hW => ⟨_, rfl, ?_, ht⟩) (fun q h => by cases h) d_Model_needs_67
                      show 0 = v_needs kd o
                      first | (simp only [v_needs, v_n3, h1, h2, h9, h10, h11, h12, h13, h14, h15, h16, if_true, if_false, eq_self, not_true_eq_false, not_false_eq_true, ne_eq]; done) | (simp only [v_needs, v_n3, h1, h2, h9, h10, h11, h12, h13, h14, h15, h16, if_true, if_false, eq_self, not_true_eq_false, not_false_eq_true, ne_eq]; rfl) | (simp [v_needs, v_n3, h1, h2, h9, h10, h11, h12, h13, h14, h15, h16]; done)
                    · -- ¬ kd = 0
                      refine lv_iconst (v := 1) hx hb d_Model_needs_62 (by decide) ?_
                      refine lv_goto (tgt := 67) hx hb d_Model_needs_63 (by decide) ?_
                      refine W.iret hx hb hr (fun t ht hW => ⟨_, rfl, ?_, ht⟩) (fun q h => by cases h) d_Model_needs_67
                      show 1 = v_needs kd o
                      first | (simp only [v_needs, v_n3, h1, h2, h9, h10, h11, h12, h13, h14, h15, h16, if_true, if_false, eq_self, not_true_eq_false, not_false_eq_true, ne_eq]; done) | (simp only [v_needs, v_n3, h1, h2, h9, h10, h11, h12, h13, h14, h15, h16, if_true, if_false, eq_self, not_true_eq_false, not_false_eq_true, ne_eq]; rfl) | (simp [v_needs, v_n3, h1, h2, h9, h10, h11, h12, h13, h14, h15, h16]; done)
                · -- o = 15
                  refine lv_iconst (v := 1) hx hb d_Model_needs_47 (by decide) ?_
                  refine W.iret hx hb hr (fun t ht hW => ⟨_, rfl, ?_, ht⟩) (fun q h => by cases h) d_Model_needs_48
                  show 1 = v_needs kd o
                  first | (simp only [v_needs, v_n3, h1, h2, h9, h10, h11, h12, h13, h14, if_true, if_false, eq_self, not_true_eq_false, not_false_eq_true, ne_eq]; done) | (simp only [v_needs, v_n3, h1, h2, h9, h10, h11, h12, h13, h14, if_true, if_false, eq_self, not_true_eq_false, not_false_eq_true, ne_eq]; rfl) | (simp [v_needs, v_n3, h1, h2, h9, h10, h11, h12, h13, h14]; done)
        · -- o = 16
          refine lv_iconst (v := 2) hx hb d_Model_needs_23 (by decide) ?_
          refine W.iret hx hb hr (fun t ht hW => ⟨_, rfl, ?_, ht⟩) (fun q h => by cases h) d_Model_needs_24
          show 2 = v_needs kd o
          first | (simp only [v_needs, v_n3, h1, h2, h9, h10, if_true, if_false, eq_self, not_true_eq_false, not_false_eq_true, ne_eq]; done) | (simp only [v_needs, v_n3, h1, h2, h9, h10, if_true, if_false, eq_self, not_true_eq_false, not_false_eq_true, ne_eq]; rfl) | (simp [v_needs, v_n3, h1, h2, h9, h10]; done)
set_option maxHeartbeats 4000000 in
set_option maxRecDepth 100000 in
theorem c_Model_grows (l : Launch) (o : Int32) : Met l y_Model_grows w_Model_grows (rmk 0) (va_Pc [.int o] (fun _ => True)) (vp_Si (fun r => r = v_grow o)) 0 0 (fun _ => False) := by
  refine Met.ofW (cc := b_Model_grows) (maxL := 1) (ret := (some .int)) (by decide) rfl ?_
  intro p e s m args below meth c s₁ B hml hv
  obtain ⟨rfl, -⟩ := hv
  have hx := B.exec
  have hb := B.bytes
  have hr := B.returns
  have hts : ∀ w ∈ gW, w.before _ s = true := fun w h => atoms_spec (ws := w_Model_grows) B.pre w (List.mem_cons_of_mem _ h)
  have hown : s.vm.findClass R_Model = some m.cls := findClass_of_methodNamed B.named
  have hlocks := B.notSynchronized
  have hl := lv_entry ([.int o]) (n := 1) (Nat.le_of_ble_eq_true rfl)
  rw [lg_entry_eq]
  generalize (lg_sl ([.int o]) ++ List.replicate (1 - (lg_sl ([.int o])).length) Slot.unset).toArray = ls at hl ⊢
  have hl : lv_has ls 1 [(0, .int o)] := hl
  refine lv_iload_n hx hb d_Model_grows_0 rfl (lv_at hl 0 rfl) ?_
  refine lv_iconst (v := 2) hx hb d_Model_grows_1 (by decide) ?_
  refine lv_icmp_le (tgt := 10) hx hb d_Model_grows_2 (by decide) (fun h1 => ?_) (fun h1 => ?_)
  · -- o ≤ 2
    refine lv_iconst (v := 1) hx hb d_Model_grows_10 (by decide) ?_
    refine W.iret hx hb hr (fun t ht hW => ⟨_, rfl, ?_, ht⟩) (fun q h => by cases h) d_Model_grows_11
    show 1 = v_grow o
    first | (simp only [v_grow, v_g15, h1, if_true, if_false, eq_self, not_true_eq_false, not_false_eq_true, ne_eq]; done) | (simp only [v_grow, v_g15, h1, if_true, if_false, eq_self, not_true_eq_false, not_false_eq_true, ne_eq]; rfl) | (simp [v_grow, v_g15, h1]; done)
  · -- ¬ o ≤ 2
    refine lv_iload_n hx hb d_Model_grows_5 rfl (lv_at hl 0 rfl) ?_
    refine lv_iconst (v := 4) hx hb d_Model_grows_6 (by decide) ?_
    refine lv_icmp_ne (tgt := 12) hx hb d_Model_grows_7 (by decide) (fun h2 => ?_) (fun h2 => ?_)
    · -- ¬ o = 4
      refine lv_iload_n hx hb d_Model_grows_12 rfl (lv_at hl 0 rfl) ?_
      refine lv_iconst (v := 3) hx hb d_Model_grows_13 (by decide) ?_
      refine lv_icmp_eq (tgt := 41) hx hb d_Model_grows_14 (by decide) (fun h3 => ?_) (fun h3 => ?_)
      · -- o = 3
        refine lv_iconst (v := (-1)) hx hb d_Model_grows_41 (by decide) ?_
        refine W.iret hx hb hr (fun t ht hW => ⟨_, rfl, ?_, ht⟩) (fun q h => by cases h) d_Model_grows_42
        show (-1) = v_grow o
        first | (simp only [v_grow, v_g15, h1, h2, h3, if_true, if_false, eq_self, not_true_eq_false, not_false_eq_true, ne_eq]; done) | (simp only [v_grow, v_g15, h1, h2, h3, if_true, if_false, eq_self, not_true_eq_false, not_false_eq_true, ne_eq]; rfl) | (simp [v_grow, v_g15, h1, h2, h3]; done)
      · -- ¬ o = 3
        refine lv_iload_n hx hb d_Model_grows_17 rfl (lv_at hl 0 rfl) ?_
        refine lv_bipush (v := 6) hx hb d_Model_grows_18 (by decide) ?_
        refine lv_icmp_eq (tgt := 41) hx hb d_Model_grows_20 (by decide) (fun h4 => ?_) (fun h4 => ?_)
        · -- o = 6
          refine lv_iconst (v := (-1)) hx hb d_Model_grows_41 (by decide) ?_
          refine W.iret hx hb hr (fun t ht hW => ⟨_, rfl, ?_, ht⟩) (fun q h => by cases h) d_Model_grows_42
          show (-1) = v_grow o
          first | (simp only [v_grow, v_g15, h1, h2, h3, h4, if_true, if_false, eq_self, not_true_eq_false, not_false_eq_true, ne_eq]; done) | (simp only [v_grow, v_g15, h1, h2, h3, h4, if_true, if_false, eq_self, not_true_eq_false, not_false_eq_true, ne_eq]; rfl) | (simp [v_grow, v_g15, h1, h2, h3, h4]; done)
        · -- ¬ o = 6
          refine lv_iload_n hx hb d_Model_grows_23 rfl (lv_at hl 0 rfl) ?_
          refine lv_bipush (v := 7) hx hb d_Model_grows_24 (by decide) ?_
          refine lv_icmp_lt (tgt := 35) hx hb d_Model_grows_26 (by decide) (fun h5 => ?_) (fun h5 => ?_)
          · -- o < 7
            refine lv_iload_n hx hb d_Model_grows_35 rfl (lv_at hl 0 rfl) ?_
            refine lv_bipush (v := 15) hx hb d_Model_grows_36 (by decide) ?_
            refine lv_icmp_ne (tgt := 43) hx hb d_Model_grows_38 (by decide) (fun h6 => ?_) (fun h6 => ?_)
            · -- ¬ o = 15
              refine lv_iload_n hx hb d_Model_grows_43 rfl (lv_at hl 0 rfl) ?_
              refine lv_bipush (v := 16) hx hb d_Model_grows_44 (by decide) ?_
              refine lv_icmp_ne (tgt := 54) hx hb d_Model_grows_46 (by decide) (fun h7 => ?_) (fun h7 => ?_)
              · -- ¬ o = 16
                refine lv_iconst (v := 0) hx hb d_Model_grows_54 (by decide) ?_
                refine W.iret hx hb hr (fun t ht hW => ⟨_, rfl, ?_, ht⟩) (fun q h => by cases h) d_Model_grows_55
                show 0 = v_grow o
                first | (simp only [v_grow, v_g15, h1, h2, h3, h4, h5, h6, h7, if_true, if_false, eq_self, not_true_eq_false, not_false_eq_true, ne_eq]; done) | (simp only [v_grow, v_g15, h1, h2, h3, h4, h5, h6, h7, if_true, if_false, eq_self, not_true_eq_false, not_false_eq_true, ne_eq]; rfl) | (simp [v_grow, v_g15, h1, h2, h3, h4, h5, h6, h7]; done)
              · -- o = 16
                exact absurd h5 (by rw [h7]; first | done | decide)
            · -- o = 15
              exact absurd h5 (by rw [h6]; first | done | decide)
          · -- ¬ o < 7
            refine lv_iload_n hx hb d_Model_grows_29 rfl (lv_at hl 0 rfl) ?_
            refine lv_bipush (v := 13) hx hb d_Model_grows_30 (by decide) ?_
            refine lv_icmp_le (tgt := 41) hx hb d_Model_grows_32 (by decide) (fun h8 => ?_) (fun h8 => ?_)
            · -- o ≤ 13
              refine lv_iconst (v := (-1)) hx hb d_Model_grows_41 (by decide) ?_
              refine W.iret hx hb hr (fun t ht hW => ⟨_, rfl, ?_, ht⟩) (fun q h => by cases h) d_Model_grows_42
              show (-1) = v_grow o
              first | (simp only [v_grow, v_g15, h1, h2, h3, h4, h5, h8, if_true, if_false, eq_self, not_true_eq_false, not_false_eq_true, ne_eq]; done) | (simp only [v_grow, v_g15, h1, h2, h3, h4, h5, h8, if_true, if_false, eq_self, not_true_eq_false, not_false_eq_true, ne_eq]; rfl) | (simp [v_grow, v_g15, h1, h2, h3, h4, h5, h8]; done)
            · -- ¬ o ≤ 13
              refine lv_iload_n hx hb d_Model_grows_35 rfl (lv_at hl 0 rfl) ?_
              refine lv_bipush (v := 15) hx hb d_Model_grows_36 (by decide) ?_
              refine lv_icmp_ne (tgt := 43) hx hb d_Model_grows_38 (by decide) (fun h9 => ?_) (fun h9 => ?_)
              · -- ¬ o = 15
                refine lv_iload_n hx hb d_Model_grows_43 rfl (lv_at hl 0 rfl) ?_
                refine lv_bipush (v := 16) hx hb d_Model_grows_44 (by decide) ?_
                refine lv_icmp_ne (tgt := 54) hx hb d_Model_grows_46 (by decide) (fun h10 => ?_) (fun h10 => ?_)
                · -- ¬ o = 16
                  refine lv_iconst (v := 0) hx hb d_Model_grows_54 (by decide) ?_
                  refine W.iret hx hb hr (fun t ht hW => ⟨_, rfl, ?_, ht⟩) (fun q h => by cases h) d_Model_grows_55
                  show 0 = v_grow o
                  first | (simp only [v_grow, v_g15, h1, h2, h3, h4, h5, h8, h9, h10, if_true, if_false, eq_self, not_true_eq_false, not_false_eq_true, ne_eq]; done) | (simp only [v_grow, v_g15, h1, h2, h3, h4, h5, h8, h9, h10, if_true, if_false, eq_self, not_true_eq_false, not_false_eq_true, ne_eq]; rfl) | (simp [v_grow, v_g15, h1, h2, h3, h4, h5, h8, h9, h10]; done)
                · -- o = 16
                  refine lv_bipush (v := (-2)) hx hb d_Model_grows_49 (by decide) ?_
                  refine lv_goto (tgt := 55) hx hb d_Model_grows_51 (by decide) ?_
                  refine W.iret hx hb hr (fun t ht hW => ⟨_, rfl, ?_, ht⟩) (fun q h => by cases h) d_Model_grows_55
                  show (-2) = v_grow o
                  first | (simp only [v_grow, v_g15, h1, h2, h3, h4, h5, h8, h9, h10, if_true, if_false, eq_self, not_true_eq_false, not_false_eq_true, ne_eq]; done) | (simp only [v_grow, v_g15, h1, h2, h3, h4, h5, h8, h9, h10, if_true, if_false, eq_self, not_true_eq_false, not_false_eq_true, ne_eq]; rfl) | (simp [v_grow, v_g15, h1, h2, h3, h4, h5, h8, h9, h10]; done)
              · -- o = 15
                refine lv_iconst (v := (-1)) hx hb d_Model_grows_41 (by decide) ?_
                refine W.iret hx hb hr (fun t ht hW => ⟨_, rfl, ?_, ht⟩) (fun q h => by cases h) d_Model_grows_42
                show (-1) = v_grow o
                first | (simp only [v_grow, v_g15, h1, h2, h3, h4, h5, h8, h9, if_true, if_false, eq_self, not_true_eq_false, not_false_eq_true, ne_eq]; done) | (simp only [v_grow, v_g15, h1, h2, h3, h4, h5, h8, h9, if_true, if_false, eq_self, not_true_eq_false, not_false_eq_true, ne_eq]; rfl) | (simp [v_grow, v_g15, h1, h2, h3, h4, h5, h8, h9]; done)
    · -- o = 4
      refine lv_iconst (v := 1) hx hb d_Model_grows_10 (by decide) ?_
      refine W.iret hx hb hr (fun t ht hW => ⟨_, rfl, ?_, ht⟩) (fun q h => by cases h) d_Model_grows_11
      show 1 = v_grow o
      first | (simp only [v_grow, v_g15, h1, h2, if_true, if_false, eq_self, not_true_eq_false, not_false_eq_true, ne_eq]; done) | (simp only [v_grow, v_g15, h1, h2, if_true, if_false, eq_self, not_true_eq_false, not_false_eq_true, ne_eq]; rfl) | (simp [v_grow, v_g15, h1, h2]; done)
set_option maxHeartbeats 4000000 in
set_option maxRecDepth 100000 in
theorem c_Model_reckoned (l : Launch) (op x y : Int32) : Met l y_Model_reckoned w_Model_reckoned (rmk 0) (va_Pc [.int op, .int x, .int y] (fun _ => True)) (vp_Si (fun r => r = m_comb op x y)) 0 0 (fun _ => False) := by
  refine Met.ofW (cc := b_Model_reckoned) (maxL := 3) (ret := (some .int)) (by decide) rfl ?_
  intro p e s m args below meth c s₁ B hml hv
  obtain ⟨rfl, -⟩ := hv
  have hx := B.exec
  have hb := B.bytes
  have hr := B.returns
  have hts : ∀ w ∈ gW, w.before _ s = true := fun w h => atoms_spec (ws := w_Model_reckoned) B.pre w (List.mem_cons_of_mem _ h)
  have hown : s.vm.findClass R_Model = some m.cls := findClass_of_methodNamed B.named
  have hlocks := B.notSynchronized
  have hl := lv_entry ([.int op, .int x, .int y]) (n := 3) (Nat.le_of_ble_eq_true rfl)
  rw [lg_entry_eq]
  generalize (lg_sl ([.int op, .int x, .int y]) ++ List.replicate (3 - (lg_sl ([.int op, .int x, .int y])).length) Slot.unset).toArray = ls at hl ⊢
  have hl : lv_has ls 3 [(0, .int op), (1, .int x), (2, .int y)] := hl
  refine lv_iload_n hx hb d_Model_reckoned_0 rfl (lv_at hl 0 rfl) ?_
  rcases (by omega : (Int32.toInt op < 7 ∨ 12 < Int32.toInt op) ∨ Int32.toInt op = 7 ∨ Int32.toInt op = 8 ∨ Int32.toInt op = 9 ∨ Int32.toInt op = 10 ∨ Int32.toInt op = 11 ∨ Int32.toInt op = 12) with h1 | h1 | h1 | h1 | h1 | h1 | h1
  · -- default
    refine lv_tableOut (tgt := 87) hx hb d_Model_reckoned_1 h1 (by decide) ?_
    refine lv_iload_n hx hb d_Model_reckoned_87 rfl (lv_at hl 1 rfl) ?_
    refine lv_iload_n hx hb d_Model_reckoned_88 rfl (lv_at hl 2 rfl) ?_
    refine lv_icmp_ne (tgt := 96) hx hb d_Model_reckoned_89 (by decide) (fun h2 => ?_) (fun h2 => ?_)
    · -- ¬ x = y
      refine lv_iconst (v := 0) hx hb d_Model_reckoned_96 (by decide) ?_
      refine W.iret hx hb hr (fun t ht hW => ⟨_, rfl, ?_, ht⟩) (fun q h => by cases h) d_Model_reckoned_97
      show 0 = m_comb op x y
      (have g7 := sw_ne (k := 7) h1 (by decide); have g8 := sw_ne (k := 8) h1 (by decide); have g9 := sw_ne (k := 9) h1 (by decide); have g10 := sw_ne (k := 10) h1 (by decide); have g11 := sw_ne (k := 11) h1 (by decide); have g12 := sw_ne (k := 12) h1 (by decide); simp only [m_comb, g7, g8, g9, g10, g11, g12, h2, if_true, if_false, eq_self, not_true_eq_false, not_false_eq_true, ne_eq])
    · -- x = y
      refine lv_iconst (v := 1) hx hb d_Model_reckoned_92 (by decide) ?_
      refine lv_goto (tgt := 97) hx hb d_Model_reckoned_93 (by decide) ?_
      refine W.iret hx hb hr (fun t ht hW => ⟨_, rfl, ?_, ht⟩) (fun q h => by cases h) d_Model_reckoned_97
      show 1 = m_comb op x y
      (have g7 := sw_ne (k := 7) h1 (by decide); have g8 := sw_ne (k := 8) h1 (by decide); have g9 := sw_ne (k := 9) h1 (by decide); have g10 := sw_ne (k := 10) h1 (by decide); have g11 := sw_ne (k := 11) h1 (by decide); have g12 := sw_ne (k := 12) h1 (by decide); simp only [m_comb, g7, g8, g9, g10, g11, g12, h2, if_true, if_false, eq_self, not_true_eq_false, not_false_eq_true, ne_eq])
  · -- case 7
    have h1 : op = 7 := Int32.toInt_inj.mp (by rw [h1]; decide)
    subst h1
    refine lv_tableIn (tgt := 40) (off := 39) hx hb d_Model_reckoned_1 (by decide) (by decide) (by decide +kernel) (by decide) ?_
    refine lv_iload_n hx hb d_Model_reckoned_40 rfl (lv_at hl 1 rfl) ?_
    refine lv_iload_n hx hb d_Model_reckoned_41 rfl (lv_at hl 2 rfl) ?_
    refine lv_iadd hx hb d_Model_reckoned_42 ?_
    refine W.iret hx hb hr (fun t ht hW => ⟨_, rfl, ?_, ht⟩) (fun q h => by cases h) d_Model_reckoned_43
    show (x + y) = m_comb 7 x y
    first | rfl | (simp only [m_comb, if_true, if_false, eq_self, not_true_eq_false, not_false_eq_true, ne_eq]; rfl) | (unfold m_comb; simp [])
  · -- case 8
    have h1 : op = 8 := Int32.toInt_inj.mp (by rw [h1]; decide)
    subst h1
    refine lv_tableIn (tgt := 44) (off := 43) hx hb d_Model_reckoned_1 (by decide) (by decide) (by decide +kernel) (by decide) ?_
    refine lv_iload_n hx hb d_Model_reckoned_44 rfl (lv_at hl 1 rfl) ?_
    refine lv_iload_n hx hb d_Model_reckoned_45 rfl (lv_at hl 2 rfl) ?_
    refine lv_isub hx hb d_Model_reckoned_46 ?_
    refine W.iret hx hb hr (fun t ht hW => ⟨_, rfl, ?_, ht⟩) (fun q h => by cases h) d_Model_reckoned_47
    show (x - y) = m_comb 8 x y
    first | rfl | (simp only [m_comb, if_true, if_false, eq_self, not_true_eq_false, not_false_eq_true, ne_eq]; rfl) | (unfold m_comb; simp [])
  · -- case 9
    have h1 : op = 9 := Int32.toInt_inj.mp (by rw [h1]; decide)
    subst h1
    refine lv_tableIn (tgt := 48) (off := 47) hx hb d_Model_reckoned_1 (by decide) (by decide) (by decide +kernel) (by decide) ?_
    refine lv_iload_n hx hb d_Model_reckoned_48 rfl (lv_at hl 1 rfl) ?_
    refine lv_iload_n hx hb d_Model_reckoned_49 rfl (lv_at hl 2 rfl) ?_
    refine lv_imul hx hb d_Model_reckoned_50 ?_
    refine W.iret hx hb hr (fun t ht hW => ⟨_, rfl, ?_, ht⟩) (fun q h => by cases h) d_Model_reckoned_51
    show (x * y) = m_comb 9 x y
    first | rfl | (simp only [m_comb, if_true, if_false, eq_self, not_true_eq_false, not_false_eq_true, ne_eq]; rfl) | (unfold m_comb; simp [])
  · -- case 10
    have h1 : op = 10 := Int32.toInt_inj.mp (by rw [h1]; decide)
    subst h1
    refine lv_tableIn (tgt := 52) (off := 51) hx hb d_Model_reckoned_1 (by decide) (by decide) (by decide +kernel) (by decide) ?_
    refine lv_iload_n hx hb d_Model_reckoned_52 rfl (lv_at hl 2 rfl) ?_
    refine lv_if_ne (tgt := 60) hx hb d_Model_reckoned_53 (by decide) (fun h3 => ?_) (fun h3 => ?_)
    · -- ¬ y = 0
      refine lv_iload_n hx hb d_Model_reckoned_60 rfl (lv_at hl 1 rfl) ?_
      refine lv_iload_n hx hb d_Model_reckoned_61 rfl (lv_at hl 2 rfl) ?_
      refine lv_idiv hx hb d_Model_reckoned_62 h3 ?_
      refine W.iret hx hb hr (fun t ht hW => ⟨_, rfl, ?_, ht⟩) (fun q h => by cases h) d_Model_reckoned_63
      show (x / y) = m_comb 10 x y
      first | rfl | (simp only [m_comb, h3, if_true, if_false, eq_self, not_true_eq_false, not_false_eq_true, ne_eq]; rfl) | (unfold m_comb; simp [h3])
    · -- y = 0
      refine lv_iconst (v := 0) hx hb d_Model_reckoned_56 (by decide) ?_
      refine lv_goto (tgt := 63) hx hb d_Model_reckoned_57 (by decide) ?_
      refine W.iret hx hb hr (fun t ht hW => ⟨_, rfl, ?_, ht⟩) (fun q h => by cases h) d_Model_reckoned_63
      show 0 = m_comb 10 x y
      first | rfl | (simp only [m_comb, h3, if_true, if_false, eq_self, not_true_eq_false, not_false_eq_true, ne_eq]; rfl) | (unfold m_comb; simp [h3])
  · -- case 11
    have h1 : op = 11 := Int32.toInt_inj.mp (by rw [h1]; decide)
    subst h1
    refine lv_tableIn (tgt := 64) (off := 63) hx hb d_Model_reckoned_1 (by decide) (by decide) (by decide +kernel) (by decide) ?_
    refine lv_iload_n hx hb d_Model_reckoned_64 rfl (lv_at hl 2 rfl) ?_
    refine lv_if_ne (tgt := 72) hx hb d_Model_reckoned_65 (by decide) (fun h4 => ?_) (fun h4 => ?_)
    · -- ¬ y = 0
      refine lv_iload_n hx hb d_Model_reckoned_72 rfl (lv_at hl 1 rfl) ?_
      refine lv_iload_n hx hb d_Model_reckoned_73 rfl (lv_at hl 2 rfl) ?_
      refine lv_irem hx hb d_Model_reckoned_74 h4 ?_
      refine W.iret hx hb hr (fun t ht hW => ⟨_, rfl, ?_, ht⟩) (fun q h => by cases h) d_Model_reckoned_75
      show (x - x / y * y) = m_comb 11 x y
      first | rfl | (simp only [m_comb, h4, if_true, if_false, eq_self, not_true_eq_false, not_false_eq_true, ne_eq]; rfl) | (unfold m_comb; simp [h4])
    · -- y = 0
      refine lv_iconst (v := 0) hx hb d_Model_reckoned_68 (by decide) ?_
      refine lv_goto (tgt := 75) hx hb d_Model_reckoned_69 (by decide) ?_
      refine W.iret hx hb hr (fun t ht hW => ⟨_, rfl, ?_, ht⟩) (fun q h => by cases h) d_Model_reckoned_75
      show 0 = m_comb 11 x y
      first | rfl | (simp only [m_comb, h4, if_true, if_false, eq_self, not_true_eq_false, not_false_eq_true, ne_eq]; rfl) | (unfold m_comb; simp [h4])
  · -- case 12
    have h1 : op = 12 := Int32.toInt_inj.mp (by rw [h1]; decide)
    subst h1
    refine lv_tableIn (tgt := 76) (off := 75) hx hb d_Model_reckoned_1 (by decide) (by decide) (by decide +kernel) (by decide) ?_
    refine lv_iload_n hx hb d_Model_reckoned_76 rfl (lv_at hl 1 rfl) ?_
    refine lv_iload_n hx hb d_Model_reckoned_77 rfl (lv_at hl 2 rfl) ?_
    refine lv_icmp_ge (tgt := 85) hx hb d_Model_reckoned_78 (by decide) (fun h5 => ?_) (fun h5 => ?_)
    · -- y ≤ x
      refine lv_iconst (v := 0) hx hb d_Model_reckoned_85 (by decide) ?_
      refine W.iret hx hb hr (fun t ht hW => ⟨_, rfl, ?_, ht⟩) (fun q h => by cases h) d_Model_reckoned_86
      show 0 = m_comb 12 x y
      first | rfl | (simp only [m_comb, h5, if_true, if_false, eq_self, not_true_eq_false, not_false_eq_true, ne_eq]; rfl) | (unfold m_comb; simp [h5])
    · -- ¬ y ≤ x
      refine lv_iconst (v := 1) hx hb d_Model_reckoned_81 (by decide) ?_
      refine lv_goto (tgt := 86) hx hb d_Model_reckoned_82 (by decide) ?_
      refine W.iret hx hb hr (fun t ht hW => ⟨_, rfl, ?_, ht⟩) (fun q h => by cases h) d_Model_reckoned_86
      show 1 = m_comb 12 x y
      first | rfl | (simp only [m_comb, h5, if_true, if_false, eq_self, not_true_eq_false, not_false_eq_true, ne_eq]; rfl) | (unfold m_comb; simp [h5])
set_option maxHeartbeats 4000000 in
set_option maxRecDepth 100000 in
theorem c_Model_result (l : Launch) (D : va_G) (cI cZ : ClassId) (mo mp mq mr mw mt ml mk mv : Nat) (kd : Int32) (n : Nat) (fo fn fR fW fs fl fk fv : Nat → Int32) (em sp rs : Int32) : Met l y_Model_result w_Model_result (rmk 0) (va_Pc [.ref mo] (PY D cI cZ [(mo, .inr (4, [.int kd, .ref mp, .ref mq, .int (nI n), .ref mr, .ref mw, .ref mt, .ref ml, .ref mk, .ref mv, .int em, .int sp, .int rs])), (mp, .inl (cI, 64, .inl fo)), (mq, .inl (cI, 64, .inl fn)), (mr, .inl (cI, 576, .inl fR)), (mw, .inl (cZ, 64, .inl fW)), (mt, .inl (cI, 8, .inl fs)), (ml, .inl (cI, 4, .inl fl)), (mk, .inl (cI, 20, .inl fk)), (mv, .inl (cI, 20, .inl fv))])) (vp_Si (fun r => r = rs)) 0 0 (fun _ => False) := by
  refine Met.ofW (cc := b_Model_result) (maxL := 1) (ret := (some .int)) (by decide) rfl ?_
  intro p e s m args below meth c s₁ B hml hv
  obtain ⟨rfl, hP, hE⟩ := hv
  have hx := B.exec
  have hb := B.bytes
  have hr := B.returns
  have hts : ∀ w ∈ gW, w.before _ s = true := fun w h => atoms_spec (ws := w_Model_result) B.pre w (List.mem_cons_of_mem _ h)
  have hown : s.vm.findClass R_Model = some m.cls := findClass_of_methodNamed B.named
  have hlocks := B.notSynchronized
  have hS : va_S (fun _ => False) s.heap s.heap [] := va_S.rf
  have hP : va_P D classes [(mo, .inr (4, [.int kd, .ref mp, .ref mq, .int (nI n), .ref mr, .ref mw, .ref mt, .ref ml, .ref mk, .ref mv, .int em, .int sp, .int rs])), (mp, .inl (cI, 64, .inl fo)), (mq, .inl (cI, 64, .inl fn)), (mr, .inl (cI, 576, .inl fR)), (mw, .inl (cZ, 64, .inl fW)), (mt, .inl (cI, 8, .inl fs)), (ml, .inl (cI, 4, .inl fl)), (mk, .inl (cI, 20, .inl fk)), (mv, .inl (cI, 20, .inl fv))] s.heap := hP
  have hl := lv_entry ([.ref mo]) (n := 1) (Nat.le_of_ble_eq_true rfl)
  rw [lg_entry_eq]
  generalize (lg_sl ([.ref mo]) ++ List.replicate (1 - (lg_sl ([.ref mo])).length) Slot.unset).toArray = ls at hl ⊢
  have hl : lv_has ls 1 [(0, .ref mo)] := hl
  refine lv_aload_n hx hb d_Model_result_0 rfl (lv_at hl 0 rfl) ?_
  refine va_get (D := D) (ci := 4) (v := .int rs) (C := R_Model) (T := F_Model) (N := 13) hx hb hts in_Model hown hE.1 hP 0 rfl rfl 12 (by decide) (hts _ k_328) (fun _ h9 => h9) rfl d_Model_result_1 ?_
  refine W.iret hx hb hr (fun t ht hW => ⟨_, rfl, ?_, ht⟩) (fun q h => by cases h) d_Model_result_4
  show rs = rs
  rfl
set_option maxHeartbeats 4000000 in
set_option maxRecDepth 100000 in
theorem c_Model_steps (l : Launch) (D : va_G) (cI cZ : ClassId) (mo mp mq mr mw mt ml mk mv : Nat) (kd : Int32) (n : Nat) (fo fn fR fW fs fl fk fv : Nat → Int32) (em sp rs : Int32) : Met l y_Model_steps w_Model_steps (rmk 0) (va_Pc [.ref mo] (PY D cI cZ [(mo, .inr (4, [.int kd, .ref mp, .ref mq, .int (nI n), .ref mr, .ref mw, .ref mt, .ref ml, .ref mk, .ref mv, .int em, .int sp, .int rs])), (mp, .inl (cI, 64, .inl fo)), (mq, .inl (cI, 64, .inl fn)), (mr, .inl (cI, 576, .inl fR)), (mw, .inl (cZ, 64, .inl fW)), (mt, .inl (cI, 8, .inl fs)), (ml, .inl (cI, 4, .inl fl)), (mk, .inl (cI, 20, .inl fk)), (mv, .inl (cI, 20, .inl fv))])) (vp_Si (fun r => r = sp)) 0 0 (fun _ => False) := by
  refine Met.ofW (cc := b_Model_steps) (maxL := 1) (ret := (some .int)) (by decide) rfl ?_
  intro p e s m args below meth c s₁ B hml hv
  obtain ⟨rfl, hP, hE⟩ := hv
  have hx := B.exec
  have hb := B.bytes
  have hr := B.returns
  have hts : ∀ w ∈ gW, w.before _ s = true := fun w h => atoms_spec (ws := w_Model_steps) B.pre w (List.mem_cons_of_mem _ h)
  have hown : s.vm.findClass R_Model = some m.cls := findClass_of_methodNamed B.named
  have hlocks := B.notSynchronized
  have hS : va_S (fun _ => False) s.heap s.heap [] := va_S.rf
  have hP : va_P D classes [(mo, .inr (4, [.int kd, .ref mp, .ref mq, .int (nI n), .ref mr, .ref mw, .ref mt, .ref ml, .ref mk, .ref mv, .int em, .int sp, .int rs])), (mp, .inl (cI, 64, .inl fo)), (mq, .inl (cI, 64, .inl fn)), (mr, .inl (cI, 576, .inl fR)), (mw, .inl (cZ, 64, .inl fW)), (mt, .inl (cI, 8, .inl fs)), (ml, .inl (cI, 4, .inl fl)), (mk, .inl (cI, 20, .inl fk)), (mv, .inl (cI, 20, .inl fv))] s.heap := hP
  have hl := lv_entry ([.ref mo]) (n := 1) (Nat.le_of_ble_eq_true rfl)
  rw [lg_entry_eq]
  generalize (lg_sl ([.ref mo]) ++ List.replicate (1 - (lg_sl ([.ref mo])).length) Slot.unset).toArray = ls at hl ⊢
  have hl : lv_has ls 1 [(0, .ref mo)] := hl
  refine lv_aload_n hx hb d_Model_steps_0 rfl (lv_at hl 0 rfl) ?_
  refine va_get (D := D) (ci := 4) (v := .int sp) (C := R_Model) (T := F_Model) (N := 13) hx hb hts in_Model hown hE.1 hP 0 rfl rfl 11 (by decide) (hts _ k_327) (fun _ h9 => h9) rfl d_Model_steps_1 ?_
  refine W.iret hx hb hr (fun t ht hW => ⟨_, rfl, ?_, ht⟩) (fun q h => by cases h) d_Model_steps_4
  show sp = sp
  rfl
set_option maxHeartbeats 4000000 in
set_option maxRecDepth 100000 in
theorem c_Model_pairs (l : Launch) (D : va_G) (cI cZ : ClassId) (mo mp mq mr mw mt ml mk mv : Nat) (kd : Int32) (n : Nat) (fo fn fR fW fs fl fk fv : Nat → Int32) (em sp rs : Int32) : Met l y_Model_pairs w_Model_pairs (rmk 0) (va_Pc [.ref mo] (PY D cI cZ [(mo, .inr (4, [.int kd, .ref mp, .ref mq, .int (nI n), .ref mr, .ref mw, .ref mt, .ref ml, .ref mk, .ref mv, .int em, .int sp, .int rs])), (mp, .inl (cI, 64, .inl fo)), (mq, .inl (cI, 64, .inl fn)), (mr, .inl (cI, 576, .inl fR)), (mw, .inl (cZ, 64, .inl fW)), (mt, .inl (cI, 8, .inl fs)), (ml, .inl (cI, 4, .inl fl)), (mk, .inl (cI, 20, .inl fk)), (mv, .inl (cI, 20, .inl fv))])) (vp_Si (fun r => r = em)) 0 0 (fun _ => False) := by
  refine Met.ofW (cc := b_Model_pairs) (maxL := 1) (ret := (some .int)) (by decide) rfl ?_
  intro p e s m args below meth c s₁ B hml hv
  obtain ⟨rfl, hP, hE⟩ := hv
  have hx := B.exec
  have hb := B.bytes
  have hr := B.returns
  have hts : ∀ w ∈ gW, w.before _ s = true := fun w h => atoms_spec (ws := w_Model_pairs) B.pre w (List.mem_cons_of_mem _ h)
  have hown : s.vm.findClass R_Model = some m.cls := findClass_of_methodNamed B.named
  have hlocks := B.notSynchronized
  have hS : va_S (fun _ => False) s.heap s.heap [] := va_S.rf
  have hP : va_P D classes [(mo, .inr (4, [.int kd, .ref mp, .ref mq, .int (nI n), .ref mr, .ref mw, .ref mt, .ref ml, .ref mk, .ref mv, .int em, .int sp, .int rs])), (mp, .inl (cI, 64, .inl fo)), (mq, .inl (cI, 64, .inl fn)), (mr, .inl (cI, 576, .inl fR)), (mw, .inl (cZ, 64, .inl fW)), (mt, .inl (cI, 8, .inl fs)), (ml, .inl (cI, 4, .inl fl)), (mk, .inl (cI, 20, .inl fk)), (mv, .inl (cI, 20, .inl fv))] s.heap := hP
  have hl := lv_entry ([.ref mo]) (n := 1) (Nat.le_of_ble_eq_true rfl)
  rw [lg_entry_eq]
  generalize (lg_sl ([.ref mo]) ++ List.replicate (1 - (lg_sl ([.ref mo])).length) Slot.unset).toArray = ls at hl ⊢
  have hl : lv_has ls 1 [(0, .ref mo)] := hl
  refine lv_aload_n hx hb d_Model_pairs_0 rfl (lv_at hl 0 rfl) ?_
  refine va_get (D := D) (ci := 4) (v := .int em) (C := R_Model) (T := F_Model) (N := 13) hx hb hts in_Model hown hE.1 hP 0 rfl rfl 10 (by decide) (hts _ k_326) (fun _ h9 => h9) rfl d_Model_pairs_1 ?_
  refine W.iret hx hb hr (fun t ht hW => ⟨_, rfl, ?_, ht⟩) (fun q h => by cases h) d_Model_pairs_4
  show em = em
  rfl
set_option maxHeartbeats 4000000 in
set_option maxRecDepth 100000 in
theorem c_Model_reach (l : Launch) (D : va_G) (cI cZ : ClassId) (hz : Nat) (mo mp mq mr mw mt ml mk mv : Nat) (kd : Int32) (n : Nat) (fo fn fR fW fs fl fk fv : Nat → Int32) (em sp rs : Int32) (a b : Nat) (ha : a < 64) (hb9 : b < 9) : Met l y_Model_reach w_Model_reach (rmk 0) (va_Pc [.ref mo, .int (nI a), .int (nI b)] (MY D cI cZ [(mo, .inr (4, [.int kd, .ref mp, .ref mq, .int (nI n), .ref mr, .ref mw, .ref mt, .ref ml, .ref mk, .ref mv, .int em, .int sp, .int rs])), (mp, .inl (cI, 64, .inl fo)), (mq, .inl (cI, 64, .inl fn)), (mr, .inl (cI, 576, .inl fR)), (mw, .inl (cZ, 64, .inl fW)), (mt, .inl (cI, 8, .inl fs)), (ml, .inl (cI, 4, .inl fl)), (mk, .inl (cI, 20, .inl fk)), (mv, .inl (cI, 20, .inl fv))] hz)) (va_Qv (fun u : Nat → Int32 => u = v_rch fR a b) (fun u t => ME D (va_A [(mo, .inr (4, [.int kd, .ref mp, .ref mq, .int (nI n), .ref mr, .ref mw, .ref mt, .ref ml, .ref mk, .ref mv, .int em, .int sp, .int rs])), (mp, .inl (cI, 64, .inl fo)), (mq, .inl (cI, 64, .inl fn)), (mr, .inl (cI, 576, .inl fR)), (mw, .inl (cZ, 64, .inl fW)), (mt, .inl (cI, 8, .inl fs)), (ml, .inl (cI, 4, .inl fl)), (mk, .inl (cI, 20, .inl fk)), (mv, .inl (cI, 20, .inl fv))] hz) [(mo, .inr (4, [.int kd, .ref mp, .ref mq, .int (nI n), .ref mr, .ref mw, .ref mt, .ref ml, .ref mk, .ref mv, .int em, .int sp, .int rs])), (mp, .inl (cI, 64, .inl fo)), (mq, .inl (cI, 64, .inl fn)), (mr, .inl (cI, 576, .inl u)), (mw, .inl (cZ, 64, .inl fW)), (mt, .inl (cI, 8, .inl fs)), (ml, .inl (cI, 4, .inl fl)), (mk, .inl (cI, 20, .inl fk)), (mv, .inl (cI, 20, .inl fv))] t) (va_A [(mo, .inr (4, [.int kd, .ref mp, .ref mq, .int (nI n), .ref mr, .ref mw, .ref mt, .ref ml, .ref mk, .ref mv, .int em, .int sp, .int rs])), (mp, .inl (cI, 64, .inl fo)), (mq, .inl (cI, 64, .inl fn)), (mr, .inl (cI, 576, .inl fR)), (mw, .inl (cZ, 64, .inl fW)), (mt, .inl (cI, 8, .inl fs)), (ml, .inl (cI, 4, .inl fl)), (mk, .inl (cI, 20, .inl fk)), (mv, .inl (cI, 20, .inl fv))] hz)) 0 0 (va_A [(mo, .inr (4, [.int kd, .ref mp, .ref mq, .int (nI n), .ref mr, .ref mw, .ref mt, .ref ml, .ref mk, .ref mv, .int em, .int sp, .int rs])), (mp, .inl (cI, 64, .inl fo)), (mq, .inl (cI, 64, .inl fn)), (mr, .inl (cI, 576, .inl fR)), (mw, .inl (cZ, 64, .inl fW)), (mt, .inl (cI, 8, .inl fs)), (ml, .inl (cI, 4, .inl fl)), (mk, .inl (cI, 20, .inl fk)), (mv, .inl (cI, 20, .inl fv))] hz) := by
  refine Met.ofW (cc := b_Model_reach) (maxL := 3) (ret := none) (by decide) rfl ?_
  intro p e s m args below meth c s₁ B hml hv
  obtain ⟨rfl, hsz, hP, hE, hD0⟩ := hv
  have hx := B.exec
  have hb := B.bytes
  have hr := B.returns
  have hts : ∀ w ∈ gW, w.before _ s = true := fun w h => atoms_spec (ws := w_Model_reach) B.pre w (List.mem_cons_of_mem _ h)
  have hown : s.vm.findClass R_Model = some m.cls := findClass_of_methodNamed B.named
  have hlocks := B.notSynchronized
  subst hsz
  have hD := hD0.self (sz := s.heap.size)
  have hA : ∀ q : Nat, s.heap.size ≤ q → va_A [(mo, .inr (4, [.int kd, .ref mp, .ref mq, .int (nI n), .ref mr, .ref mw, .ref mt, .ref ml, .ref mk, .ref mv, .int em, .int sp, .int rs])), (mp, .inl (cI, 64, .inl fo)), (mq, .inl (cI, 64, .inl fn)), (mr, .inl (cI, 576, .inl fR)), (mw, .inl (cZ, 64, .inl fW)), (mt, .inl (cI, 8, .inl fs)), (ml, .inl (cI, 4, .inl fl)), (mk, .inl (cI, 20, .inl fk)), (mv, .inl (cI, 20, .inl fv))] s.heap.size q := fun q h => Or.inr h
  generalize va_A [(mo, .inr (4, [.int kd, .ref mp, .ref mq, .int (nI n), .ref mr, .ref mw, .ref mt, .ref ml, .ref mk, .ref mv, .int em, .int sp, .int rs])), (mp, .inl (cI, 64, .inl fo)), (mq, .inl (cI, 64, .inl fn)), (mr, .inl (cI, 576, .inl fR)), (mw, .inl (cZ, 64, .inl fW)), (mt, .inl (cI, 8, .inl fs)), (ml, .inl (cI, 4, .inl fl)), (mk, .inl (cI, 20, .inl fk)), (mv, .inl (cI, 20, .inl fv))] s.heap.size = A at hD hA ⊢
  have hS : va_S A s.heap s.heap [] := va_S.rf
  have hP : va_P D classes [(mo, .inr (4, [.int kd, .ref mp, .ref mq, .int (nI n), .ref mr, .ref mw, .ref mt, .ref ml, .ref mk, .ref mv, .int em, .int sp, .int rs])), (mp, .inl (cI, 64, .inl fo)), (mq, .inl (cI, 64, .inl fn)), (mr, .inl (cI, 576, .inl fR)), (mw, .inl (cZ, 64, .inl fW)), (mt, .inl (cI, 8, .inl fs)), (ml, .inl (cI, 4, .inl fl)), (mk, .inl (cI, 20, .inl fk)), (mv, .inl (cI, 20, .inl fv))] s.heap := hP
  have hD : va_D A [(mo, .inr (4, [.int kd, .ref mp, .ref mq, .int (nI n), .ref mr, .ref mw, .ref mt, .ref ml, .ref mk, .ref mv, .int em, .int sp, .int rs])), (mp, .inl (cI, 64, .inl fo)), (mq, .inl (cI, 64, .inl fn)), (mr, .inl (cI, 576, .inl fR)), (mw, .inl (cZ, 64, .inl fW)), (mt, .inl (cI, 8, .inl fs)), (ml, .inl (cI, 4, .inl fl)), (mk, .inl (cI, 20, .inl fk)), (mv, .inl (cI, 20, .inl fv))] := hD
  have hl := lv_entry ([.ref mo, .int (nI a), .int (nI b)]) (n := 3) (Nat.le_of_ble_eq_true rfl)
  rw [lg_entry_eq]
  generalize (lg_sl ([.ref mo, .int (nI a), .int (nI b)]) ++ List.replicate (3 - (lg_sl ([.ref mo, .int (nI a), .int (nI b)])).length) Slot.unset).toArray = ls at hl ⊢
  have hl : lv_has ls 3 [(0, .ref mo), (1, .int (nI a)), (2, .int (nI b))] := hl
  refine lv_aload_n hx hb d_Model_reach_0 rfl (lv_at hl 0 rfl) ?_
  refine va_get (D := D) (ci := 4) (v := .ref mr) (C := R_Model) (T := F_Model) (N := 13) hx hb hts in_Model hown hE.1 hP 0 rfl rfl 4 (by decide) (hts _ k_320) (fun _ h9 => h9) rfl d_Model_reach_1 ?_
  refine lv_bipush (v := 9) hx hb d_Model_reach_4 (by decide) ?_
  refine lv_iload_n hx hb d_Model_reach_6 rfl (lv_at hl 1 rfl) ?_
  refine lv_imul hx hb d_Model_reach_7 ?_
  refine lv_iload_n hx hb d_Model_reach_8 rfl (lv_at hl 2 rfl) ?_
  refine lv_iadd hx hb d_Model_reach_9 ?_
  refine lv_eqi (y := (nI (9 * a + b))) (ix9 a b) ?_
  refine va_iald hx hb hE.1 hP 3 0 rfl rfl (vp_in_nI (by omega) (by decide)) d_Model_reach_10 ?_
  refine lv_eqi (y := fR (9 * a + b)) (congrArg fR (nI_clamp (show (9 * a + b) < 2 ^ 31 by omega))) ?_
  refine lv_if_ne (tgt := 26) hx hb d_Model_reach_11 (by decide) (fun h1 => ?_) (fun h1 => ?_)
  · -- ¬ (fR (9 * a + b)) = 0
    refine W.vret hx hb hr (fun t ht hW => ⟨⟨fR, rfl, ?_, ?_⟩, hS.F ht⟩) hS.2.2 d_Model_reach_26
    · first | (simp only [v_rch, h1, if_true, if_false, eq_self, not_true_eq_false, not_false_eq_true, ne_eq]; done) | (simp only [v_rch, h1, if_true, if_false, eq_self, not_true_eq_false, not_false_eq_true, ne_eq]; rfl) | (simp [v_rch, h1]; done)
    · exact ⟨by rw [ht]; exact hP.sub [0, 1, 2, 3, 4, 5, 6, 7, 8] rfl, hD.sub [0, 1, 2, 3, 4, 5, 6, 7, 8] (by decide) rfl⟩
  · -- (fR (9 * a + b)) = 0
    refine lv_aload_n hx hb d_Model_reach_14 rfl (lv_at hl 0 rfl) ?_
    refine va_get (D := D) (ci := 4) (v := .ref mr) (C := R_Model) (T := F_Model) (N := 13) hx hb hts in_Model hown hE.1 hP 0 rfl rfl 4 (by decide) (hts _ k_320) (fun _ h9 => h9) rfl d_Model_reach_15 ?_
    refine lv_bipush (v := 9) hx hb d_Model_reach_18 (by decide) ?_
    refine lv_iload_n hx hb d_Model_reach_20 rfl (lv_at hl 1 rfl) ?_
    refine lv_imul hx hb d_Model_reach_21 ?_
    refine lv_iload_n hx hb d_Model_reach_22 rfl (lv_at hl 2 rfl) ?_
    refine lv_iadd hx hb d_Model_reach_23 ?_
    refine lv_eqi (y := (nI (9 * a + b))) (ix9 a b) ?_
    refine lv_iconst (v := 1) hx hb d_Model_reach_24 (by decide) ?_
    refine va_iast hx hb hE.1 hP hD hS 3 0 rfl rfl (vp_in_nI (by omega) (by decide)) d_Model_reach_25 (fun H locs hP hD hS => ?_)
    rw [nI_clamp (show (9 * a + b) < 2 ^ 31 by omega)] at hP hD
    have hP : va_P D classes [(mo, .inr (4, [.int kd, .ref mp, .ref mq, .int (nI n), .ref mr, .ref mw, .ref mt, .ref ml, .ref mk, .ref mv, .int em, .int sp, .int rs])), (mp, .inl (cI, 64, .inl fo)), (mq, .inl (cI, 64, .inl fn)), (mr, .inl (cI, 576, .inl (upd fR (9 * a + b) 1))), (mw, .inl (cZ, 64, .inl fW)), (mt, .inl (cI, 8, .inl fs)), (ml, .inl (cI, 4, .inl fl)), (mk, .inl (cI, 20, .inl fk)), (mv, .inl (cI, 20, .inl fv))] H := hP
    have hD : va_D A [(mo, .inr (4, [.int kd, .ref mp, .ref mq, .int (nI n), .ref mr, .ref mw, .ref mt, .ref ml, .ref mk, .ref mv, .int em, .int sp, .int rs])), (mp, .inl (cI, 64, .inl fo)), (mq, .inl (cI, 64, .inl fn)), (mr, .inl (cI, 576, .inl (upd fR (9 * a + b) 1))), (mw, .inl (cZ, 64, .inl fW)), (mt, .inl (cI, 8, .inl fs)), (ml, .inl (cI, 4, .inl fl)), (mk, .inl (cI, 20, .inl fk)), (mv, .inl (cI, 20, .inl fv))] := hD
    refine W.vret hx hb hr (fun t ht hW => ⟨⟨(upd fR (9 * a + b) 1), rfl, ?_, ?_⟩, hS.F ht⟩) hS.2.2 d_Model_reach_26
    · first | (simp only [v_rch, h1, if_true, if_false, eq_self, not_true_eq_false, not_false_eq_true, ne_eq]; done) | (simp only [v_rch, h1, if_true, if_false, eq_self, not_true_eq_false, not_false_eq_true, ne_eq]; rfl) | (simp [v_rch, h1]; done)
    · exact ⟨by rw [ht]; exact hP.sub [0, 1, 2, 3, 4, 5, 6, 7, 8] rfl, hD.sub [0, 1, 2, 3, 4, 5, 6, 7, 8] (by decide) rfl⟩
set_option maxHeartbeats 4000000 in
set_option maxRecDepth 100000 in
theorem c_Model_goOn (l : Launch) (D : va_G) (cI cZ : ClassId) (hz : Nat) (mo mp mq mr mw mt ml mk mv : Nat) (kd : Int32) (n : Nat) (fo fn fR fW fs fl fk fv : Nat → Int32) (em sp rs : Int32) (a b : Nat) (hk : kd = 0 ∨ kd = 1 ∨ kd = 2 ∨ kd = 3) (hn : n ≤ 64) (ha : a < n) (hb9 : b < 9) : Met l y_Model_goOn w_Model_goOn (rmk 1) (va_Pc [.ref mo, .int (nI a), .int (nI b)] (MY D cI cZ [(mo, .inr (4, [.int kd, .ref mp, .ref mq, .int (nI n), .ref mr, .ref mw, .ref mt, .ref ml, .ref mk, .ref mv, .int em, .int sp, .int rs])), (mp, .inl (cI, 64, .inl fo)), (mq, .inl (cI, 64, .inl fn)), (mr, .inl (cI, 576, .inl fR)), (mw, .inl (cZ, 64, .inl fW)), (mt, .inl (cI, 8, .inl fs)), (ml, .inl (cI, 4, .inl fl)), (mk, .inl (cI, 20, .inl fk)), (mv, .inl (cI, 20, .inl fv))] hz)) (va_Qv (fun u : (Nat → Int32) × (Nat → Int32) => GoR kd (acOf kd) n fo fn a b fR fW u) (fun u t => ME D (va_A [(mo, .inr (4, [.int kd, .ref mp, .ref mq, .int (nI n), .ref mr, .ref mw, .ref mt, .ref ml, .ref mk, .ref mv, .int em, .int sp, .int rs])), (mp, .inl (cI, 64, .inl fo)), (mq, .inl (cI, 64, .inl fn)), (mr, .inl (cI, 576, .inl fR)), (mw, .inl (cZ, 64, .inl fW)), (mt, .inl (cI, 8, .inl fs)), (ml, .inl (cI, 4, .inl fl)), (mk, .inl (cI, 20, .inl fk)), (mv, .inl (cI, 20, .inl fv))] hz) [(mo, .inr (4, [.int kd, .ref mp, .ref mq, .int (nI n), .ref mr, .ref mw, .ref mt, .ref ml, .ref mk, .ref mv, .int em, .int sp, .int rs])), (mp, .inl (cI, 64, .inl fo)), (mq, .inl (cI, 64, .inl fn)), (mr, .inl (cI, 576, .inl u.1)), (mw, .inl (cZ, 64, .inl u.2)), (mt, .inl (cI, 8, .inl fs)), (ml, .inl (cI, 4, .inl fl)), (mk, .inl (cI, 20, .inl fk)), (mv, .inl (cI, 20, .inl fv))] t) (va_A [(mo, .inr (4, [.int kd, .ref mp, .ref mq, .int (nI n), .ref mr, .ref mw, .ref mt, .ref ml, .ref mk, .ref mv, .int em, .int sp, .int rs])), (mp, .inl (cI, 64, .inl fo)), (mq, .inl (cI, 64, .inl fn)), (mr, .inl (cI, 576, .inl fR)), (mw, .inl (cZ, 64, .inl fW)), (mt, .inl (cI, 8, .inl fs)), (ml, .inl (cI, 4, .inl fl)), (mk, .inl (cI, 20, .inl fk)), (mv, .inl (cI, 20, .inl fv))] hz)) 0 0 (va_A [(mo, .inr (4, [.int kd, .ref mp, .ref mq, .int (nI n), .ref mr, .ref mw, .ref mt, .ref ml, .ref mk, .ref mv, .int em, .int sp, .int rs])), (mp, .inl (cI, 64, .inl fo)), (mq, .inl (cI, 64, .inl fn)), (mr, .inl (cI, 576, .inl fR)), (mw, .inl (cZ, 64, .inl fW)), (mt, .inl (cI, 8, .inl fs)), (ml, .inl (cI, 4, .inl fl)), (mk, .inl (cI, 20, .inl fk)), (mv, .inl (cI, 20, .inl fv))] hz) := by
  refine Met.ofW (cc := b_Model_goOn) (maxL := 6) (ret := none) (by decide) rfl ?_
  intro p e s m args below meth c s₁ B hml hv
  obtain ⟨rfl, hsz, hP, hE, hD0⟩ := hv
  have hx := B.exec
  have hb := B.bytes
  have hr := B.returns
  have hts : ∀ w ∈ gW, w.before _ s = true := fun w h => atoms_spec (ws := w_Model_goOn) B.pre w (List.mem_cons_of_mem _ h)
  have hown : s.vm.findClass R_Model = some m.cls := findClass_of_methodNamed B.named
  have hlocks := B.notSynchronized
  subst hsz
  have hD := hD0.self (sz := s.heap.size)
  have hA : ∀ q : Nat, s.heap.size ≤ q → va_A [(mo, .inr (4, [.int kd, .ref mp, .ref mq, .int (nI n), .ref mr, .ref mw, .ref mt, .ref ml, .ref mk, .ref mv, .int em, .int sp, .int rs])), (mp, .inl (cI, 64, .inl fo)), (mq, .inl (cI, 64, .inl fn)), (mr, .inl (cI, 576, .inl fR)), (mw, .inl (cZ, 64, .inl fW)), (mt, .inl (cI, 8, .inl fs)), (ml, .inl (cI, 4, .inl fl)), (mk, .inl (cI, 20, .inl fk)), (mv, .inl (cI, 20, .inl fv))] s.heap.size q := fun q h => Or.inr h
  generalize va_A [(mo, .inr (4, [.int kd, .ref mp, .ref mq, .int (nI n), .ref mr, .ref mw, .ref mt, .ref ml, .ref mk, .ref mv, .int em, .int sp, .int rs])), (mp, .inl (cI, 64, .inl fo)), (mq, .inl (cI, 64, .inl fn)), (mr, .inl (cI, 576, .inl fR)), (mw, .inl (cZ, 64, .inl fW)), (mt, .inl (cI, 8, .inl fs)), (ml, .inl (cI, 4, .inl fl)), (mk, .inl (cI, 20, .inl fk)), (mv, .inl (cI, 20, .inl fv))] s.heap.size = A at hD hA ⊢
  have hS : va_S A s.heap s.heap [] := va_S.rf
  have hP : va_P D classes [(mo, .inr (4, [.int kd, .ref mp, .ref mq, .int (nI n), .ref mr, .ref mw, .ref mt, .ref ml, .ref mk, .ref mv, .int em, .int sp, .int rs])), (mp, .inl (cI, 64, .inl fo)), (mq, .inl (cI, 64, .inl fn)), (mr, .inl (cI, 576, .inl fR)), (mw, .inl (cZ, 64, .inl fW)), (mt, .inl (cI, 8, .inl fs)), (ml, .inl (cI, 4, .inl fl)), (mk, .inl (cI, 20, .inl fk)), (mv, .inl (cI, 20, .inl fv))] s.heap := hP
  have hD : va_D A [(mo, .inr (4, [.int kd, .ref mp, .ref mq, .int (nI n), .ref mr, .ref mw, .ref mt, .ref ml, .ref mk, .ref mv, .int em, .int sp, .int rs])), (mp, .inl (cI, 64, .inl fo)), (mq, .inl (cI, 64, .inl fn)), (mr, .inl (cI, 576, .inl fR)), (mw, .inl (cZ, 64, .inl fW)), (mt, .inl (cI, 8, .inl fs)), (ml, .inl (cI, 4, .inl fl)), (mk, .inl (cI, 20, .inl fk)), (mv, .inl (cI, 20, .inl fv))] := hD
  have hl := lv_entry ([.ref mo, .int (nI a), .int (nI b)]) (n := 6) (Nat.le_of_ble_eq_true rfl)
  rw [lg_entry_eq]
  generalize (lg_sl ([.ref mo, .int (nI a), .int (nI b)]) ++ List.replicate (6 - (lg_sl ([.ref mo, .int (nI a), .int (nI b)])).length) Slot.unset).toArray = ls at hl ⊢
  have hl : lv_has ls 6 [(0, .ref mo), (1, .int (nI a)), (2, .int (nI b))] := hl
  refine lv_aload_n hx hb d_Model_goOn_0 rfl (lv_at hl 0 rfl) ?_
  refine lv_iload_n hx hb d_Model_goOn_1 rfl (lv_at hl 1 rfl) ?_
  refine vp_callSi (va_Run.run (va_runV (As := [.int (nI a)]) (rest := []) ⟨hx, hb, hml, hown, hts⟩ (c_Model_isBad l D cI cZ mo mp mq mr mw mt ml mk mv kd n fo fn fR fW fs fl fk fv em sp rs a (by omega)) (cwV 1 hts (gd4 k_377 k_379 k_12 k_22 k_380) rfl rfl rfl (by decide +kernel) ⟨Nat.le_of_ble_eq_true rfl, Nat.le_of_ble_eq_true rfl⟩) ⟨PY_blind, va_recv (q0 := 0) (ci := 4) hE.1 hP rfl rfl, py_pre hE (hP.sub [0, 1, 2, 3, 4, 5, 6, 7, 8] rfl)⟩ rfl rfl hl.1 rfl (lv_room (Nat.le_of_ble_eq_true rfl)) d_Model_goOn_2 ⟨Nat.zero_le _, Nat.zero_le _⟩)) (fun r hq => ?_)
  subst hq
  refine lv_if_eq (tgt := 9) hx hb d_Model_goOn_5 (by decide) (fun h1 => ?_) (fun h1 => ?_)
  · -- (v_bad kd (nI n) (fo a) (fn a)) = 0
    have hwf : ¬ p_wf kd (nI n) (acOf kd) fo fn (nI a) = 0 := by rw [wf_wfb (by omega)]; exact (bad_wf hk (nI_ne_m1 (by omega))).mp h1
    obtain ⟨o, ho, eo⟩ := isOf_o (wf_isOf hwf)
    rw [rd_in fo (by omega) (by omega)] at eo
    have hgr : v_grow (fo a) = o_grow (fo a) := by rw [eo]; exact grow_eq o ho
    have hne : v_needs kd (fo a) = o_needs (fo a) kd := by rw [eo]; exact needs_eq kd ho
    refine lv_aload_n hx hb d_Model_goOn_9 rfl (lv_at hl 0 rfl) ?_
    refine va_get (D := D) (ci := 4) (v := .ref mp) (C := R_Model) (T := F_Model) (N := 13) hx hb hts in_Model hown hE.1 hP 0 rfl rfl 1 (by decide) (hts _ k_317) (fun _ h9 => h9) rfl d_Model_goOn_10 ?_
    refine lv_iload_n hx hb d_Model_goOn_13 rfl (lv_at hl 1 rfl) ?_
    refine va_iald hx hb hE.1 hP 1 0 rfl rfl (vp_in_nI (by omega) (by decide)) d_Model_goOn_14 ?_
    refine lv_eqi (y := fo a) (congrArg fo (nI_clamp (show a < 2 ^ 31 by omega))) ?_
    refine lv_istore_n hx hb d_Model_goOn_15 rfl hl (by decide) rfl (fun ls hl => ?_)
    have hl : lv_has ls 6 [(3, .int (fo a)), (0, .ref mo), (1, .int (nI a)), (2, .int (nI b))] := hl
    refine lv_iload_n hx hb d_Model_goOn_16 rfl (lv_at hl 3 rfl) ?_
    refine lv_iload_n hx hb d_Model_goOn_17 rfl (lv_at hl 0 rfl) ?_
    refine vp_callSi (va_Run.run (va_runS (As := [.int (fo a)]) (rest := [.int (nI b)]) ⟨hx, hb, hml, hown, hts⟩ (c_Model_grows l (fo a)) (cwS 1 hts (gd3 k_385 k_386 k_22 k_387) rfl rfl rfl (by decide +kernel) ⟨Nat.le_of_ble_eq_true rfl, Nat.le_of_ble_eq_true rfl⟩) ⟨fun _ _ _ _ q => q, fun _ _ _ => ⟨rfl, trivial⟩⟩ rfl rfl hl.1 rfl (lv_room (Nat.le_of_ble_eq_true rfl)) d_Model_goOn_18 ⟨Nat.zero_le _, Nat.zero_le _⟩)) (fun r hq => ?_)
    subst hq
    refine lv_eqi (y := (o_grow (fo a))) (hgr) ?_
    refine lv_iadd hx hb d_Model_goOn_21 ?_
    refine lv_istore hx hb d_Model_goOn_22 hl (by decide) rfl (fun ls hl => ?_)
    have hl : lv_has ls 6 [(4, .int ((nI b) + (o_grow (fo a)))), (3, .int (fo a)), (0, .ref mo), (1, .int (nI a)), (2, .int (nI b))] := hl
    refine lv_iload_n hx hb d_Model_goOn_24 rfl (lv_at hl 1 rfl) ?_
    refine lv_bipush (v := 14) hx hb d_Model_goOn_25 (by decide) ?_
    refine lv_icmp_eq (tgt := 46) hx hb d_Model_goOn_27 (by decide) (fun h2 => ?_) (fun h2 => ?_)
    · -- (fo a) = 14
      refine lv_iconst (v := 0) hx hb d_Model_goOn_46 (by decide) ?_
      have hnx : o_next (fo a) = 0 := by
        first | (simp only [o_next, h2, if_true, if_false, eq_self, not_true_eq_false, not_false_eq_true, ne_eq]; done) | (simp only [o_next, h2, if_true, if_false, eq_self, not_true_eq_false, not_false_eq_true, ne_eq]; decide)
      refine lv_istore hx hb d_Model_goOn_47 hl (by decide) rfl (fun ls hl => ?_)
      have hl : lv_has ls 6 [(5, .int 0), (4, .int ((nI b) + (o_grow (fo a)))), (3, .int (fo a)), (0, .ref mo), (1, .int (nI a)), (2, .int (nI b))] := hl
      refine lv_iload_n hx hb d_Model_goOn_49 rfl (lv_at hl 5 rfl) ?_
      refine lv_aload_n hx hb d_Model_goOn_50 rfl (lv_at hl 3 rfl) ?_
      refine lv_iload_n hx hb d_Model_goOn_51 rfl (lv_at hl 2 rfl) ?_
      refine vp_callSi (va_Run.run (va_runV (As := [.int (fo a)]) (rest := [.int (nI b)]) ⟨hx, hb, hml, hown, hts⟩ (c_Model_needs l D cI cZ mo mp mq mr mw mt ml mk mv kd n fo fn fR fW fs fl fk fv em sp rs (fo a)) (cwV 1 hts (gd4 k_388 k_390 k_14 k_22 k_391) rfl rfl rfl (by decide +kernel) ⟨Nat.le_of_ble_eq_true rfl, Nat.le_of_ble_eq_true rfl⟩) ⟨PY_blind, va_recv (q0 := 0) (ci := 4) hE.1 hP rfl rfl, py_pre hE (hP.sub [0, 1, 2, 3, 4, 5, 6, 7, 8] rfl)⟩ rfl rfl hl.1 rfl (lv_room (Nat.le_of_ble_eq_true rfl)) d_Model_goOn_52 ⟨Nat.zero_le _, Nat.zero_le _⟩)) (fun r hq => ?_)
      subst hq
      refine lv_eqi (y := (o_needs (fo a) kd)) (hne) ?_
      refine lv_icmp_lt (tgt := 80) hx hb d_Model_goOn_55 (by decide) (fun h3 => ?_) (fun h3 => ?_)
      · -- (nI b) < (o_needs (fo a) kd)
        refine lv_aload_n hx hb d_Model_goOn_80 rfl (lv_at hl 3 rfl) ?_
        refine va_get (D := D) (ci := 4) (v := .ref mw) (C := R_Model) (T := F_Model) (N := 13) hx hb hts in_Model hown hE.1 hP 0 rfl rfl 5 (by decide) (hts _ k_321) (fun _ h9 => h9) rfl d_Model_goOn_81 ?_
        refine lv_iload_n hx hb d_Model_goOn_84 rfl (lv_at hl 4 rfl) ?_
        refine lv_iconst (v := 1) hx hb d_Model_goOn_85 (by decide) ?_
        refine va_zast hx hb hE.1 hP hD hS 4 1 rfl rfl (vp_in_nI (by omega) (by decide)) d_Model_goOn_86 (fun H locs hP hD hS => ?_)
        rw [nI_clamp (show a < 2 ^ 31 by omega)] at hP hD
        have hP : va_P D classes [(mo, .inr (4, [.int kd, .ref mp, .ref mq, .int (nI n), .ref mr, .ref mw, .ref mt, .ref ml, .ref mk, .ref mv, .int em, .int sp, .int rs])), (mp, .inl (cI, 64, .inl fo)), (mq, .inl (cI, 64, .inl fn)), (mr, .inl (cI, 576, .inl fR)), (mw, .inl (cZ, 64, .inl (upd fW a 1))), (mt, .inl (cI, 8, .inl fs)), (ml, .inl (cI, 4, .inl fl)), (mk, .inl (cI, 20, .inl fk)), (mv, .inl (cI, 20, .inl fv))] H := hP
        have hD : va_D A [(mo, .inr (4, [.int kd, .ref mp, .ref mq, .int (nI n), .ref mr, .ref mw, .ref mt, .ref ml, .ref mk, .ref mv, .int em, .int sp, .int rs])), (mp, .inl (cI, 64, .inl fo)), (mq, .inl (cI, 64, .inl fn)), (mr, .inl (cI, 576, .inl fR)), (mw, .inl (cZ, 64, .inl (upd fW a 1))), (mt, .inl (cI, 8, .inl fs)), (ml, .inl (cI, 4, .inl fl)), (mk, .inl (cI, 20, .inl fk)), (mv, .inl (cI, 20, .inl fv))] := hD
        refine W.vret hx hb hr (fun t ht hW => ⟨⟨(fR, (upd fW a 1)), rfl, ?_, ?_⟩, hS.F ht⟩) hS.2.2 d_Model_goOn_87
        · exact Or.inr (Or.inl ⟨hwf, fun q => q (cbd0_fit (by omega) (fit0_needs h3)), rfl⟩)
        · exact ⟨by rw [ht]; exact hP.sub [0, 1, 2, 3, 4, 5, 6, 7, 8] rfl, hD.sub [0, 1, 2, 3, 4, 5, 6, 7, 8] (by decide) rfl⟩
      · -- ¬ (nI b) < (o_needs (fo a) kd)
        refine lv_iload hx hb d_Model_goOn_58 (lv_at hl 1 rfl) ?_
        refine lv_bipush (v := 8) hx hb d_Model_goOn_60 (by decide) ?_
        refine lv_icmp_gt (tgt := 80) hx hb d_Model_goOn_62 (by decide) (fun h4 => ?_) (fun h4 => ?_)
        · -- 8 < ((nI b) + (o_grow (fo a)))
          refine lv_aload_n hx hb d_Model_goOn_80 rfl (lv_at hl 3 rfl) ?_
          refine va_get (D := D) (ci := 4) (v := .ref mw) (C := R_Model) (T := F_Model) (N := 13) hx hb hts in_Model hown hE.1 hP 0 rfl rfl 5 (by decide) (hts _ k_321) (fun _ h9 => h9) rfl d_Model_goOn_81 ?_
          refine lv_iload_n hx hb d_Model_goOn_84 rfl (lv_at hl 4 rfl) ?_
          refine lv_iconst (v := 1) hx hb d_Model_goOn_85 (by decide) ?_
          refine va_zast hx hb hE.1 hP hD hS 4 1 rfl rfl (vp_in_nI (by omega) (by decide)) d_Model_goOn_86 (fun H locs hP hD hS => ?_)
          rw [nI_clamp (show a < 2 ^ 31 by omega)] at hP hD
          have hP : va_P D classes [(mo, .inr (4, [.int kd, .ref mp, .ref mq, .int (nI n), .ref mr, .ref mw, .ref mt, .ref ml, .ref mk, .ref mv, .int em, .int sp, .int rs])), (mp, .inl (cI, 64, .inl fo)), (mq, .inl (cI, 64, .inl fn)), (mr, .inl (cI, 576, .inl fR)), (mw, .inl (cZ, 64, .inl (upd fW a 1))), (mt, .inl (cI, 8, .inl fs)), (ml, .inl (cI, 4, .inl fl)), (mk, .inl (cI, 20, .inl fk)), (mv, .inl (cI, 20, .inl fv))] H := hP
          have hD : va_D A [(mo, .inr (4, [.int kd, .ref mp, .ref mq, .int (nI n), .ref mr, .ref mw, .ref mt, .ref ml, .ref mk, .ref mv, .int em, .int sp, .int rs])), (mp, .inl (cI, 64, .inl fo)), (mq, .inl (cI, 64, .inl fn)), (mr, .inl (cI, 576, .inl fR)), (mw, .inl (cZ, 64, .inl (upd fW a 1))), (mt, .inl (cI, 8, .inl fs)), (ml, .inl (cI, 4, .inl fl)), (mk, .inl (cI, 20, .inl fk)), (mv, .inl (cI, 20, .inl fv))] := hD
          refine W.vret hx hb hr (fun t ht hW => ⟨⟨(fR, (upd fW a 1)), rfl, ?_, ?_⟩, hS.F ht⟩) hS.2.2 d_Model_goOn_87
          · exact Or.inr (Or.inl ⟨hwf, fun q => q (cbd0_fit (by omega) (fit0_grow h4)), rfl⟩)
          · exact ⟨by rw [ht]; exact hP.sub [0, 1, 2, 3, 4, 5, 6, 7, 8] rfl, hD.sub [0, 1, 2, 3, 4, 5, 6, 7, 8] (by decide) rfl⟩
        · -- ¬ 8 < ((nI b) + (o_grow (fo a)))
          refine lv_iload hx hb d_Model_goOn_65 (lv_at hl 0 rfl) ?_
          refine lv_if_eq (tgt := 88) hx hb d_Model_goOn_67 (by decide) (fun h5 => ?_) (fun h5 => ?_)
          · -- 0 = 0
            have hc : cb kd (acOf kd) n fo fn a b := cbd1 hn ha hwf h3 h4 (Or.inl hnx)
            obtain ⟨-, ⟨h1, hh1, eh⟩, hxn, hjm⟩ := cb_facts hn ha hb9 hc
            rw [eh] at hl
            refine lv_iload hx hb d_Model_goOn_88 (lv_at hl 0 rfl) ?_
            refine lv_if_eq (tgt := 102) hx hb d_Model_goOn_90 (by decide) (fun h6 => ?_) (fun h6 => ?_)
            · -- 0 = 0
              refine lv_iload_n hx hb d_Model_goOn_102 rfl (lv_at hl 2 rfl) ?_
              refine lv_bipush (v := 14) hx hb d_Model_goOn_103 (by decide) ?_
              refine lv_icmp_eq (tgt := 114) hx hb d_Model_goOn_105 (by decide) (fun h7 => ?_) (fun h7 => ?_)
              · -- (fo a) = 14
                have hj0 : ¬ o_jump (fo a) = 0 := by
                  rw [h7]; decide
                obtain ⟨k1, hkk, ek⟩ := hjm hj0
                refine lv_aload_n hx hb d_Model_goOn_114 rfl (lv_at hl 3 rfl) ?_
                refine lv_aload_n hx hb d_Model_goOn_115 rfl (lv_at hl 3 rfl) ?_
                refine va_get (D := D) (ci := 4) (v := .ref mq) (C := R_Model) (T := F_Model) (N := 13) hx hb hts in_Model hown hE.1 hP 0 rfl rfl 2 (by decide) (hts _ k_318) (fun _ h9 => h9) rfl d_Model_goOn_116 ?_
                refine lv_iload_n hx hb d_Model_goOn_119 rfl (lv_at hl 4 rfl) ?_
                refine va_iald hx hb hE.1 hP 2 0 rfl rfl (vp_in_nI (by omega) (by decide)) d_Model_goOn_120 ?_
                refine lv_eqi (y := fn a) (congrArg fn (nI_clamp (show a < 2 ^ 31 by omega))) ?_
                refine lv_eqi (y := (nI k1)) (ek) ?_
                refine lv_iload hx hb d_Model_goOn_121 (lv_at hl 1 rfl) ?_
                have hPc := hP.sub (ws' := [(mo, .inr (4, [.int kd, .ref mp, .ref mq, .int (nI n), .ref mr, .ref mw, .ref mt, .ref ml, .ref mk, .ref mv, .int em, .int sp, .int rs])), (mp, .inl (cI, 64, .inl fo)), (mq, .inl (cI, 64, .inl fn)), (mr, .inl (cI, 576, .inl fR)), (mw, .inl (cZ, 64, .inl fW)), (mt, .inl (cI, 8, .inl fs)), (ml, .inl (cI, 4, .inl fl)), (mk, .inl (cI, 20, .inl fk)), (mv, .inl (cI, 20, .inl fv))]) [0, 1, 2, 3, 4, 5, 6, 7, 8] rfl
                have hDc := hD.sub (ws' := [(mo, .inr (4, [.int kd, .ref mp, .ref mq, .int (nI n), .ref mr, .ref mw, .ref mt, .ref ml, .ref mk, .ref mv, .int em, .int sp, .int rs])), (mp, .inl (cI, 64, .inl fo)), (mq, .inl (cI, 64, .inl fn)), (mr, .inl (cI, 576, .inl fR)), (mw, .inl (cZ, 64, .inl fW)), (mt, .inl (cI, 8, .inl fs)), (ml, .inl (cI, 4, .inl fl)), (mk, .inl (cI, 20, .inl fk)), (mv, .inl (cI, 20, .inl fv))]) [0, 1, 2, 3, 4, 5, 6, 7, 8] (by decide) rfl
                have hFc := va_free (wc := [(mo, .inr (4, [.int kd, .ref mp, .ref mq, .int (nI n), .ref mr, .ref mw, .ref mt, .ref ml, .ref mk, .ref mv, .int em, .int sp, .int rs])), (mp, .inl (cI, 64, .inl fo)), (mq, .inl (cI, 64, .inl fn)), (mr, .inl (cI, 576, .inl fR)), (mw, .inl (cZ, 64, .inl fW)), (mt, .inl (cI, 8, .inl fs)), (ml, .inl (cI, 4, .inl fl)), (mk, .inl (cI, 20, .inl fk)), (mv, .inl (cI, 20, .inl fv))]) hD hS hA [0, 1, 2, 3, 4, 5, 6, 7, 8] rfl
                refine va_callv (va_runV (As := [.int (nI k1), .int (nI h1)]) (rest := []) ⟨hx, hb, hml, hown, hts⟩ (c_Model_reach l D cI cZ s.heap.size mo mp mq mr mw mt ml mk mv kd n fo fn fR fW fs fl fk fv em sp rs k1 h1 (by omega) (by omega)) (cwV 2 hts (gd4 k_392 k_394 k_15 k_22 k_395) rfl rfl rfl (by decide +kernel) ⟨Nat.le_of_ble_eq_true rfl, Nat.le_of_ble_eq_true rfl⟩) ⟨MY_blind, va_recv (q0 := 0) (ci := 4) hE.1 hP rfl rfl, my_pre hE hPc hDc⟩ rfl rfl hl.1 rfl (lv_room (Nat.le_of_ble_eq_true rfl)) d_Model_goOn_123 ⟨Nat.zero_le _, Nat.zero_le _⟩) hS (fun q _ h => hFc q h) hFc (fun u t H1 locs ht hvm hw hB hz1 hk1 hS => ?_)
                obtain ⟨hP1, hD1⟩ := hB
                rw [ht] at hP1
                subst hw
                obtain ⟨hP, hD⟩ := va_join (wr := []) (w1 := [(mo, .inr (4, [.int kd, .ref mp, .ref mq, .int (nI n), .ref mr, .ref mw, .ref mt, .ref ml, .ref mk, .ref mv, .int em, .int sp, .int rs])), (mp, .inl (cI, 64, .inl fo)), (mq, .inl (cI, 64, .inl fn)), (mr, .inl (cI, 576, .inl (v_rch fR k1 h1))), (mw, .inl (cZ, 64, .inl fW)), (mt, .inl (cI, 8, .inl fs)), (ml, .inl (cI, 4, .inl fl)), (mk, .inl (cI, 20, .inl fk)), (mv, .inl (cI, 20, .inl fv))]) hP hD [0, 1, 2, 3, 4, 5, 6, 7, 8] [] rfl rfl (by decide) (by decide) hk1 hFc hP1 hD1
                generalize H1 = H at hP hS ⊢
                have hP : va_P D classes [(mo, .inr (4, [.int kd, .ref mp, .ref mq, .int (nI n), .ref mr, .ref mw, .ref mt, .ref ml, .ref mk, .ref mv, .int em, .int sp, .int rs])), (mp, .inl (cI, 64, .inl fo)), (mq, .inl (cI, 64, .inl fn)), (mr, .inl (cI, 576, .inl (v_rch fR k1 h1))), (mw, .inl (cZ, 64, .inl fW)), (mt, .inl (cI, 8, .inl fs)), (ml, .inl (cI, 4, .inl fl)), (mk, .inl (cI, 20, .inl fk)), (mv, .inl (cI, 20, .inl fv))] H := hP
                have hD : va_D A [(mo, .inr (4, [.int kd, .ref mp, .ref mq, .int (nI n), .ref mr, .ref mw, .ref mt, .ref ml, .ref mk, .ref mv, .int em, .int sp, .int rs])), (mp, .inl (cI, 64, .inl fo)), (mq, .inl (cI, 64, .inl fn)), (mr, .inl (cI, 576, .inl (v_rch fR k1 h1))), (mw, .inl (cZ, 64, .inl fW)), (mt, .inl (cI, 8, .inl fs)), (ml, .inl (cI, 4, .inl fl)), (mk, .inl (cI, 20, .inl fk)), (mv, .inl (cI, 20, .inl fv))] := hD
                refine W.vret hx hb hr (fun t ht hW => ⟨⟨((v_rch fR k1 h1), fW), rfl, ?_, ?_⟩, hS.F ht⟩) hS.2.2 d_Model_goOn_126
                · (exact Or.inr (Or.inr ⟨hc, h1, k1, hh1, eh, (fun _ => ⟨hkk, ek⟩), by simp only [v_opt, hnx, hj0, if_true, if_false, eq_self, not_true_eq_false, not_false_eq_true, ne_eq]⟩))
                · exact ⟨by rw [ht]; exact hP.sub [0, 1, 2, 3, 4, 5, 6, 7, 8] rfl, hD.sub [0, 1, 2, 3, 4, 5, 6, 7, 8] (by decide) rfl⟩
              · -- ¬ (fo a) = 14
                exact absurd (by rw [h2]; first | done | decide) h7
            · -- ¬ 0 = 0
              exact absurd rfl h6
          · -- ¬ 0 = 0
            exact absurd rfl h5
    · -- ¬ (fo a) = 14
      refine lv_iload_n hx hb d_Model_goOn_30 rfl (lv_at hl 1 rfl) ?_
      refine lv_bipush (v := 17) hx hb d_Model_goOn_31 (by decide) ?_
      refine lv_icmp_eq (tgt := 46) hx hb d_Model_goOn_33 (by decide) (fun h8 => ?_) (fun h8 => ?_)
      · -- (fo a) = 17
        refine lv_iconst (v := 0) hx hb d_Model_goOn_46 (by decide) ?_
        have hnx : o_next (fo a) = 0 := by
          first | (simp only [o_next, h2, h8, if_true, if_false, eq_self, not_true_eq_false, not_false_eq_true, ne_eq]; done) | (simp only [o_next, h2, h8, if_true, if_false, eq_self, not_true_eq_false, not_false_eq_true, ne_eq]; decide)
        refine lv_istore hx hb d_Model_goOn_47 hl (by decide) rfl (fun ls hl => ?_)
        have hl : lv_has ls 6 [(5, .int 0), (4, .int ((nI b) + (o_grow (fo a)))), (3, .int (fo a)), (0, .ref mo), (1, .int (nI a)), (2, .int (nI b))] := hl
        refine lv_iload_n hx hb d_Model_goOn_49 rfl (lv_at hl 5 rfl) ?_
        refine lv_aload_n hx hb d_Model_goOn_50 rfl (lv_at hl 3 rfl) ?_
        refine lv_iload_n hx hb d_Model_goOn_51 rfl (lv_at hl 2 rfl) ?_
        refine vp_callSi (va_Run.run (va_runV (As := [.int (fo a)]) (rest := [.int (nI b)]) ⟨hx, hb, hml, hown, hts⟩ (c_Model_needs l D cI cZ mo mp mq mr mw mt ml mk mv kd n fo fn fR fW fs fl fk fv em sp rs (fo a)) (cwV 1 hts (gd4 k_388 k_390 k_14 k_22 k_391) rfl rfl rfl (by decide +kernel) ⟨Nat.le_of_ble_eq_true rfl, Nat.le_of_ble_eq_true rfl⟩) ⟨PY_blind, va_recv (q0 := 0) (ci := 4) hE.1 hP rfl rfl, py_pre hE (hP.sub [0, 1, 2, 3, 4, 5, 6, 7, 8] rfl)⟩ rfl rfl hl.1 rfl (lv_room (Nat.le_of_ble_eq_true rfl)) d_Model_goOn_52 ⟨Nat.zero_le _, Nat.zero_le _⟩)) (fun r hq => ?_)
        subst hq
        refine lv_eqi (y := (o_needs (fo a) kd)) (hne) ?_
        refine lv_icmp_lt (tgt := 80) hx hb d_Model_goOn_55 (by decide) (fun h9 => ?_) (fun h9 => ?_)
        · -- (nI b) < (o_needs (fo a) kd)
          refine lv_aload_n hx hb d_Model_goOn_80 rfl (lv_at hl 3 rfl) ?_
          refine va_get (D := D) (ci := 4) (v := .ref mw) (C := R_Model) (T := F_Model) (N := 13) hx hb hts in_Model hown hE.1 hP 0 rfl rfl 5 (by decide) (hts _ k_321) (fun _ h9 => h9) rfl d_Model_goOn_81 ?_
          refine lv_iload_n hx hb d_Model_goOn_84 rfl (lv_at hl 4 rfl) ?_
          refine lv_iconst (v := 1) hx hb d_Model_goOn_85 (by decide) ?_
          refine va_zast hx hb hE.1 hP hD hS 4 1 rfl rfl (vp_in_nI (by omega) (by decide)) d_Model_goOn_86 (fun H locs hP hD hS => ?_)
          rw [nI_clamp (show a < 2 ^ 31 by omega)] at hP hD
          have hP : va_P D classes [(mo, .inr (4, [.int kd, .ref mp, .ref mq, .int (nI n), .ref mr, .ref mw, .ref mt, .ref ml, .ref mk, .ref mv, .int em, .int sp, .int rs])), (mp, .inl (cI, 64, .inl fo)), (mq, .inl (cI, 64, .inl fn)), (mr, .inl (cI, 576, .inl fR)), (mw, .inl (cZ, 64, .inl (upd fW a 1))), (mt, .inl (cI, 8, .inl fs)), (ml, .inl (cI, 4, .inl fl)), (mk, .inl (cI, 20, .inl fk)), (mv, .inl (cI, 20, .inl fv))] H := hP
          have hD : va_D A [(mo, .inr (4, [.int kd, .ref mp, .ref mq, .int (nI n), .ref mr, .ref mw, .ref mt, .ref ml, .ref mk, .ref mv, .int em, .int sp, .int rs])), (mp, .inl (cI, 64, .inl fo)), (mq, .inl (cI, 64, .inl fn)), (mr, .inl (cI, 576, .inl fR)), (mw, .inl (cZ, 64, .inl (upd fW a 1))), (mt, .inl (cI, 8, .inl fs)), (ml, .inl (cI, 4, .inl fl)), (mk, .inl (cI, 20, .inl fk)), (mv, .inl (cI, 20, .inl fv))] := hD
          refine W.vret hx hb hr (fun t ht hW => ⟨⟨(fR, (upd fW a 1)), rfl, ?_, ?_⟩, hS.F ht⟩) hS.2.2 d_Model_goOn_87
          · exact Or.inr (Or.inl ⟨hwf, fun q => q (cbd0_fit (by omega) (fit0_needs h9)), rfl⟩)
          · exact ⟨by rw [ht]; exact hP.sub [0, 1, 2, 3, 4, 5, 6, 7, 8] rfl, hD.sub [0, 1, 2, 3, 4, 5, 6, 7, 8] (by decide) rfl⟩
        · -- ¬ (nI b) < (o_needs (fo a) kd)
          refine lv_iload hx hb d_Model_goOn_58 (lv_at hl 1 rfl) ?_
          refine lv_bipush (v := 8) hx hb d_Model_goOn_60 (by decide) ?_
          refine lv_icmp_gt (tgt := 80) hx hb d_Model_goOn_62 (by decide) (fun h10 => ?_) (fun h10 => ?_)
          · -- 8 < ((nI b) + (o_grow (fo a)))
            refine lv_aload_n hx hb d_Model_goOn_80 rfl (lv_at hl 3 rfl) ?_
            refine va_get (D := D) (ci := 4) (v := .ref mw) (C := R_Model) (T := F_Model) (N := 13) hx hb hts in_Model hown hE.1 hP 0 rfl rfl 5 (by decide) (hts _ k_321) (fun _ h9 => h9) rfl d_Model_goOn_81 ?_
            refine lv_iload_n hx hb d_Model_goOn_84 rfl (lv_at hl 4 rfl) ?_
            refine lv_iconst (v := 1) hx hb d_Model_goOn_85 (by decide) ?_
            refine va_zast hx hb hE.1 hP hD hS 4 1 rfl rfl (vp_in_nI (by omega) (by decide)) d_Model_goOn_86 (fun H locs hP hD hS => ?_)
            rw [nI_clamp (show a < 2 ^ 31 by omega)] at hP hD
            have hP : va_P D classes [(mo, .inr (4, [.int kd, .ref mp, .ref mq, .int (nI n), .ref mr, .ref mw, .ref mt, .ref ml, .ref mk, .ref mv, .int em, .int sp, .int rs])), (mp, .inl (cI, 64, .inl fo)), (mq, .inl (cI, 64, .inl fn)), (mr, .inl (cI, 576, .inl fR)), (mw, .inl (cZ, 64, .inl (upd fW a 1))), (mt, .inl (cI, 8, .inl fs)), (ml, .inl (cI, 4, .inl fl)), (mk, .inl (cI, 20, .inl fk)), (mv, .inl (cI, 20, .inl fv))] H := hP
            have hD : va_D A [(mo, .inr (4, [.int kd, .ref mp, .ref mq, .int (nI n), .ref mr, .ref mw, .ref mt, .ref ml, .ref mk, .ref mv, .int em, .int sp, .int rs])), (mp, .inl (cI, 64, .inl fo)), (mq, .inl (cI, 64, .inl fn)), (mr, .inl (cI, 576, .inl fR)), (mw, .inl (cZ, 64, .inl (upd fW a 1))), (mt, .inl (cI, 8, .inl fs)), (ml, .inl (cI, 4, .inl fl)), (mk, .inl (cI, 20, .inl fk)), (mv, .inl (cI, 20, .inl fv))] := hD
            refine W.vret hx hb hr (fun t ht hW => ⟨⟨(fR, (upd fW a 1)), rfl, ?_, ?_⟩, hS.F ht⟩) hS.2.2 d_Model_goOn_87
            · exact Or.inr (Or.inl ⟨hwf, fun q => q (cbd0_fit (by omega) (fit0_grow h10)), rfl⟩)
            · exact ⟨by rw [ht]; exact hP.sub [0, 1, 2, 3, 4, 5, 6, 7, 8] rfl, hD.sub [0, 1, 2, 3, 4, 5, 6, 7, 8] (by decide) rfl⟩
          · -- ¬ 8 < ((nI b) + (o_grow (fo a)))
            refine lv_iload hx hb d_Model_goOn_65 (lv_at hl 0 rfl) ?_
            refine lv_if_eq (tgt := 88) hx hb d_Model_goOn_67 (by decide) (fun h11 => ?_) (fun h11 => ?_)
            · -- 0 = 0
              have hc : cb kd (acOf kd) n fo fn a b := cbd1 hn ha hwf h9 h10 (Or.inl hnx)
              obtain ⟨-, ⟨h1, hh1, eh⟩, hxn, hjm⟩ := cb_facts hn ha hb9 hc
              rw [eh] at hl
              refine lv_iload hx hb d_Model_goOn_88 (lv_at hl 0 rfl) ?_
              refine lv_if_eq (tgt := 102) hx hb d_Model_goOn_90 (by decide) (fun h12 => ?_) (fun h12 => ?_)
              · -- 0 = 0
                refine lv_iload_n hx hb d_Model_goOn_102 rfl (lv_at hl 2 rfl) ?_
                refine lv_bipush (v := 14) hx hb d_Model_goOn_103 (by decide) ?_
                refine lv_icmp_eq (tgt := 114) hx hb d_Model_goOn_105 (by decide) (fun h13 => ?_) (fun h13 => ?_)
                · -- (fo a) = 14
                  exact absurd (by rw [h13]; first | done | decide) h2
                · -- ¬ (fo a) = 14
                  refine lv_iload_n hx hb d_Model_goOn_108 rfl (lv_at hl 2 rfl) ?_
                  refine lv_bipush (v := 15) hx hb d_Model_goOn_109 (by decide) ?_
                  refine lv_icmp_ne (tgt := 126) hx hb d_Model_goOn_111 (by decide) (fun h14 => ?_) (fun h14 => ?_)
                  · -- ¬ (fo a) = 15
                    refine W.vret hx hb hr (fun t ht hW => ⟨⟨(fR, fW), rfl, ?_, ?_⟩, hS.F ht⟩) hS.2.2 d_Model_goOn_126
                    · (have hj1 : o_jump (fo a) = 0 := (by simp only [o_jump, h13, h14, if_true, if_false, eq_self, not_true_eq_false, not_false_eq_true, ne_eq]); exact Or.inr (Or.inr ⟨hc, h1, 0, hh1, eh, (fun q => absurd hj1 q), by simp only [v_opt, hnx, hj1, if_true, if_false, eq_self, not_true_eq_false, not_false_eq_true, ne_eq]⟩))
                    · exact ⟨by rw [ht]; exact hP.sub [0, 1, 2, 3, 4, 5, 6, 7, 8] rfl, hD.sub [0, 1, 2, 3, 4, 5, 6, 7, 8] (by decide) rfl⟩
                  · -- (fo a) = 15
                    exact absurd h14 (by rw [h8]; first | done | decide)
              · -- ¬ 0 = 0
                exact absurd rfl h12
            · -- ¬ 0 = 0
              exact absurd rfl h11
      · -- ¬ (fo a) = 17
        refine lv_iload_n hx hb d_Model_goOn_36 rfl (lv_at hl 1 rfl) ?_
        refine lv_bipush (v := 18) hx hb d_Model_goOn_37 (by decide) ?_
        refine lv_icmp_eq (tgt := 46) hx hb d_Model_goOn_39 (by decide) (fun h15 => ?_) (fun h15 => ?_)
        · -- (fo a) = 18
          refine lv_iconst (v := 0) hx hb d_Model_goOn_46 (by decide) ?_
          have hnx : o_next (fo a) = 0 := by
            first | (simp only [o_next, h2, h8, h15, if_true, if_false, eq_self, not_true_eq_false, not_false_eq_true, ne_eq]; done) | (simp only [o_next, h2, h8, h15, if_true, if_false, eq_self, not_true_eq_false, not_false_eq_true, ne_eq]; decide)
          refine lv_istore hx hb d_Model_goOn_47 hl (by decide) rfl (fun ls hl => ?_)
          have hl : lv_has ls 6 [(5, .int 0), (4, .int ((nI b) + (o_grow (fo a)))), (3, .int (fo a)), (0, .ref mo), (1, .int (nI a)), (2, .int (nI b))] := hl
          refine lv_iload_n hx hb d_Model_goOn_49 rfl (lv_at hl 5 rfl) ?_
          refine lv_aload_n hx hb d_Model_goOn_50 rfl (lv_at hl 3 rfl) ?_
          refine lv_iload_n hx hb d_Model_goOn_51 rfl (lv_at hl 2 rfl) ?_
          refine vp_callSi (va_Run.run (va_runV (As := [.int (fo a)]) (rest := [.int (nI b)]) ⟨hx, hb, hml, hown, hts⟩ (c_Model_needs l D cI cZ mo mp mq mr mw mt ml mk mv kd n fo fn fR fW fs fl fk fv em sp rs (fo a)) (cwV 1 hts (gd4 k_388 k_390 k_14 k_22 k_391) rfl rfl rfl (by decide +kernel) ⟨Nat.le_of_ble_eq_true rfl, Nat.le_of_ble_eq_true rfl⟩) ⟨PY_blind, va_recv (q0 := 0) (ci := 4) hE.1 hP rfl rfl, py_pre hE (hP.sub [0, 1, 2, 3, 4, 5, 6, 7, 8] rfl)⟩ rfl rfl hl.1 rfl (lv_room (Nat.le_of_ble_eq_true rfl)) d_Model_goOn_52 ⟨Nat.zero_le _, Nat.zero_le _⟩)) (fun r hq => ?_)
          subst hq
          refine lv_eqi (y := (o_needs (fo a) kd)) (hne) ?_
          refine lv_icmp_lt (tgt := 80) hx hb d_Model_goOn_55 (by decide) (fun h16 => ?_) (fun h16 => ?_)
          · -- (nI b) < (o_needs (fo a) kd)
            refine lv_aload_n hx hb d_Model_goOn_80 rfl (lv_at hl 3 rfl) ?_
            refine va_get (D := D) (ci := 4) (v := .ref mw) (C := R_Model) (T := F_Model) (N := 13) hx hb hts in_Model hown hE.1 hP 0 rfl rfl 5 (by decide) (hts _ k_321) (fun _ h9 => h9) rfl d_Model_goOn_81 ?_
            refine lv_iload_n hx hb d_Model_goOn_84 rfl (lv_at hl 4 rfl) ?_
            refine lv_iconst (v := 1) hx hb d_Model_goOn_85 (by decide) ?_
            refine va_zast hx hb hE.1 hP hD hS 4 1 rfl rfl (vp_in_nI (by omega) (by decide)) d_Model_goOn_86 (fun H locs hP hD hS => ?_)
            rw [nI_clamp (show a < 2 ^ 31 by omega)] at hP hD
            have hP : va_P D classes [(mo, .inr (4, [.int kd, .ref mp, .ref mq, .int (nI n), .ref mr, .ref mw, .ref mt, .ref ml, .ref mk, .ref mv, .int em, .int sp, .int rs])), (mp, .inl (cI, 64, .inl fo)), (mq, .inl (cI, 64, .inl fn)), (mr, .inl (cI, 576, .inl fR)), (mw, .inl (cZ, 64, .inl (upd fW a 1))), (mt, .inl (cI, 8, .inl fs)), (ml, .inl (cI, 4, .inl fl)), (mk, .inl (cI, 20, .inl fk)), (mv, .inl (cI, 20, .inl fv))] H := hP
            have hD : va_D A [(mo, .inr (4, [.int kd, .ref mp, .ref mq, .int (nI n), .ref mr, .ref mw, .ref mt, .ref ml, .ref mk, .ref mv, .int em, .int sp, .int rs])), (mp, .inl (cI, 64, .inl fo)), (mq, .inl (cI, 64, .inl fn)), (mr, .inl (cI, 576, .inl fR)), (mw, .inl (cZ, 64, .inl (upd fW a 1))), (mt, .inl (cI, 8, .inl fs)), (ml, .inl (cI, 4, .inl fl)), (mk, .inl (cI, 20, .inl fk)), (mv, .inl (cI, 20, .inl fv))] := hD
            refine W.vret hx hb hr (fun t ht hW => ⟨⟨(fR, (upd fW a 1)), rfl, ?_, ?_⟩, hS.F ht⟩) hS.2.2 d_Model_goOn_87
            · exact Or.inr (Or.inl ⟨hwf, fun q => q (cbd0_fit (by omega) (fit0_needs h16)), rfl⟩)
            · exact ⟨by rw [ht]; exact hP.sub [0, 1, 2, 3, 4, 5, 6, 7, 8] rfl, hD.sub [0, 1, 2, 3, 4, 5, 6, 7, 8] (by decide) rfl⟩
          · -- ¬ (nI b) < (o_needs (fo a) kd)
            refine lv_iload hx hb d_Model_goOn_58 (lv_at hl 1 rfl) ?_
            refine lv_bipush (v := 8) hx hb d_Model_goOn_60 (by decide) ?_
            refine lv_icmp_gt (tgt := 80) hx hb d_Model_goOn_62 (by decide) (fun h17 => ?_) (fun h17 => ?_)
            · -- 8 < ((nI b) + (o_grow (fo a)))
              refine lv_aload_n hx hb d_Model_goOn_80 rfl (lv_at hl 3 rfl) ?_
              refine va_get (D := D) (ci := 4) (v := .ref mw) (C := R_Model) (T := F_Model) (N := 13) hx hb hts in_Model hown hE.1 hP 0 rfl rfl 5 (by decide) (hts _ k_321) (fun _ h9 => h9) rfl d_Model_goOn_81 ?_
              refine lv_iload_n hx hb d_Model_goOn_84 rfl (lv_at hl 4 rfl) ?_
              refine lv_iconst (v := 1) hx hb d_Model_goOn_85 (by decide) ?_
              refine va_zast hx hb hE.1 hP hD hS 4 1 rfl rfl (vp_in_nI (by omega) (by decide)) d_Model_goOn_86 (fun H locs hP hD hS => ?_)
              rw [nI_clamp (show a < 2 ^ 31 by omega)] at hP hD
              have hP : va_P D classes [(mo, .inr (4, [.int kd, .ref mp, .ref mq, .int (nI n), .ref mr, .ref mw, .ref mt, .ref ml, .ref mk, .ref mv, .int em, .int sp, .int rs])), (mp, .inl (cI, 64, .inl fo)), (mq, .inl (cI, 64, .inl fn)), (mr, .inl (cI, 576, .inl fR)), (mw, .inl (cZ, 64, .inl (upd fW a 1))), (mt, .inl (cI, 8, .inl fs)), (ml, .inl (cI, 4, .inl fl)), (mk, .inl (cI, 20, .inl fk)), (mv, .inl (cI, 20, .inl fv))] H := hP
              have hD : va_D A [(mo, .inr (4, [.int kd, .ref mp, .ref mq, .int (nI n), .ref mr, .ref mw, .ref mt, .ref ml, .ref mk, .ref mv, .int em, .int sp, .int rs])), (mp, .inl (cI, 64, .inl fo)), (mq, .inl (cI, 64, .inl fn)), (mr, .inl (cI, 576, .inl fR)), (mw, .inl (cZ, 64, .inl (upd fW a 1))), (mt, .inl (cI, 8, .inl fs)), (ml, .inl (cI, 4, .inl fl)), (mk, .inl (cI, 20, .inl fk)), (mv, .inl (cI, 20, .inl fv))] := hD
              refine W.vret hx hb hr (fun t ht hW => ⟨⟨(fR, (upd fW a 1)), rfl, ?_, ?_⟩, hS.F ht⟩) hS.2.2 d_Model_goOn_87
              · exact Or.inr (Or.inl ⟨hwf, fun q => q (cbd0_fit (by omega) (fit0_grow h17)), rfl⟩)
              · exact ⟨by rw [ht]; exact hP.sub [0, 1, 2, 3, 4, 5, 6, 7, 8] rfl, hD.sub [0, 1, 2, 3, 4, 5, 6, 7, 8] (by decide) rfl⟩
            · -- ¬ 8 < ((nI b) + (o_grow (fo a)))
              refine lv_iload hx hb d_Model_goOn_65 (lv_at hl 0 rfl) ?_
              refine lv_if_eq (tgt := 88) hx hb d_Model_goOn_67 (by decide) (fun h18 => ?_) (fun h18 => ?_)
              · -- 0 = 0
                have hc : cb kd (acOf kd) n fo fn a b := cbd1 hn ha hwf h16 h17 (Or.inl hnx)
                obtain ⟨-, ⟨h1, hh1, eh⟩, hxn, hjm⟩ := cb_facts hn ha hb9 hc
                rw [eh] at hl
                refine lv_iload hx hb d_Model_goOn_88 (lv_at hl 0 rfl) ?_
                refine lv_if_eq (tgt := 102) hx hb d_Model_goOn_90 (by decide) (fun h19 => ?_) (fun h19 => ?_)
                · -- 0 = 0
                  refine lv_iload_n hx hb d_Model_goOn_102 rfl (lv_at hl 2 rfl) ?_
                  refine lv_bipush (v := 14) hx hb d_Model_goOn_103 (by decide) ?_
                  refine lv_icmp_eq (tgt := 114) hx hb d_Model_goOn_105 (by decide) (fun h20 => ?_) (fun h20 => ?_)
                  · -- (fo a) = 14
                    exact absurd (by rw [h20]; first | done | decide) h2
                  · -- ¬ (fo a) = 14
                    refine lv_iload_n hx hb d_Model_goOn_108 rfl (lv_at hl 2 rfl) ?_
                    refine lv_bipush (v := 15) hx hb d_Model_goOn_109 (by decide) ?_
                    refine lv_icmp_ne (tgt := 126) hx hb d_Model_goOn_111 (by decide) (fun h21 => ?_) (fun h21 => ?_)
                    · -- ¬ (fo a) = 15
                      refine W.vret hx hb hr (fun t ht hW => ⟨⟨(fR, fW), rfl, ?_, ?_⟩, hS.F ht⟩) hS.2.2 d_Model_goOn_126
                      · (have hj1 : o_jump (fo a) = 0 := (by simp only [o_jump, h20, h21, if_true, if_false, eq_self, not_true_eq_false, not_false_eq_true, ne_eq]); exact Or.inr (Or.inr ⟨hc, h1, 0, hh1, eh, (fun q => absurd hj1 q), by simp only [v_opt, hnx, hj1, if_true, if_false, eq_self, not_true_eq_false, not_false_eq_true, ne_eq]⟩))
                      · exact ⟨by rw [ht]; exact hP.sub [0, 1, 2, 3, 4, 5, 6, 7, 8] rfl, hD.sub [0, 1, 2, 3, 4, 5, 6, 7, 8] (by decide) rfl⟩
                    · -- (fo a) = 15
                      exact absurd h21 (by rw [h15]; first | done | decide)
                · -- ¬ 0 = 0
                  exact absurd rfl h19
              · -- ¬ 0 = 0
                exact absurd rfl h18
        · -- ¬ (fo a) = 18
          refine lv_iconst (v := 1) hx hb d_Model_goOn_42 (by decide) ?_
          refine lv_goto (tgt := 47) hx hb d_Model_goOn_43 (by decide) ?_
          have hnx : ¬ o_next (fo a) = 0 := by
            first | (simp only [o_next, h2, h8, h15, if_true, if_false, eq_self, not_true_eq_false, not_false_eq_true, ne_eq]; done) | (simp only [o_next, h2, h8, h15, if_true, if_false, eq_self, not_true_eq_false, not_false_eq_true, ne_eq]; decide)
          refine lv_istore hx hb d_Model_goOn_47 hl (by decide) rfl (fun ls hl => ?_)
          have hl : lv_has ls 6 [(5, .int 1), (4, .int ((nI b) + (o_grow (fo a)))), (3, .int (fo a)), (0, .ref mo), (1, .int (nI a)), (2, .int (nI b))] := hl
          refine lv_iload_n hx hb d_Model_goOn_49 rfl (lv_at hl 5 rfl) ?_
          refine lv_aload_n hx hb d_Model_goOn_50 rfl (lv_at hl 3 rfl) ?_
          refine lv_iload_n hx hb d_Model_goOn_51 rfl (lv_at hl 2 rfl) ?_
          refine vp_callSi (va_Run.run (va_runV (As := [.int (fo a)]) (rest := [.int (nI b)]) ⟨hx, hb, hml, hown, hts⟩ (c_Model_needs l D cI cZ mo mp mq mr mw mt ml mk mv kd n fo fn fR fW fs fl fk fv em sp rs (fo a)) (cwV 1 hts (gd4 k_388 k_390 k_14 k_22 k_391) rfl rfl rfl (by decide +kernel) ⟨Nat.le_of_ble_eq_true rfl, Nat.le_of_ble_eq_true rfl⟩) ⟨PY_blind, va_recv (q0 := 0) (ci := 4) hE.1 hP rfl rfl, py_pre hE (hP.sub [0, 1, 2, 3, 4, 5, 6, 7, 8] rfl)⟩ rfl rfl hl.1 rfl (lv_room (Nat.le_of_ble_eq_true rfl)) d_Model_goOn_52 ⟨Nat.zero_le _, Nat.zero_le _⟩)) (fun r hq => ?_)
          subst hq
          refine lv_eqi (y := (o_needs (fo a) kd)) (hne) ?_
          refine lv_icmp_lt (tgt := 80) hx hb d_Model_goOn_55 (by decide) (fun h22 => ?_) (fun h22 => ?_)
          · -- (nI b) < (o_needs (fo a) kd)
            refine lv_aload_n hx hb d_Model_goOn_80 rfl (lv_at hl 3 rfl) ?_
            refine va_get (D := D) (ci := 4) (v := .ref mw) (C := R_Model) (T := F_Model) (N := 13) hx hb hts in_Model hown hE.1 hP 0 rfl rfl 5 (by decide) (hts _ k_321) (fun _ h9 => h9) rfl d_Model_goOn_81 ?_
            refine lv_iload_n hx hb d_Model_goOn_84 rfl (lv_at hl 4 rfl) ?_
            refine lv_iconst (v := 1) hx hb d_Model_goOn_85 (by decide) ?_
            refine va_zast hx hb hE.1 hP hD hS 4 1 rfl rfl (vp_in_nI (by omega) (by decide)) d_Model_goOn_86 (fun H locs hP hD hS => ?_)
            rw [nI_clamp (show a < 2 ^ 31 by omega)] at hP hD
            have hP : va_P D classes [(mo, .inr (4, [.int kd, .ref mp, .ref mq, .int (nI n), .ref mr, .ref mw, .ref mt, .ref ml, .ref mk, .ref mv, .int em, .int sp, .int rs])), (mp, .inl (cI, 64, .inl fo)), (mq, .inl (cI, 64, .inl fn)), (mr, .inl (cI, 576, .inl fR)), (mw, .inl (cZ, 64, .inl (upd fW a 1))), (mt, .inl (cI, 8, .inl fs)), (ml, .inl (cI, 4, .inl fl)), (mk, .inl (cI, 20, .inl fk)), (mv, .inl (cI, 20, .inl fv))] H := hP
            have hD : va_D A [(mo, .inr (4, [.int kd, .ref mp, .ref mq, .int (nI n), .ref mr, .ref mw, .ref mt, .ref ml, .ref mk, .ref mv, .int em, .int sp, .int rs])), (mp, .inl (cI, 64, .inl fo)), (mq, .inl (cI, 64, .inl fn)), (mr, .inl (cI, 576, .inl fR)), (mw, .inl (cZ, 64, .inl (upd fW a 1))), (mt, .inl (cI, 8, .inl fs)), (ml, .inl (cI, 4, .inl fl)), (mk, .inl (cI, 20, .inl fk)), (mv, .inl (cI, 20, .inl fv))] := hD
            refine W.vret hx hb hr (fun t ht hW => ⟨⟨(fR, (upd fW a 1)), rfl, ?_, ?_⟩, hS.F ht⟩) hS.2.2 d_Model_goOn_87
            · exact Or.inr (Or.inl ⟨hwf, fun q => q (cbd0_fit (by omega) (fit0_needs h22)), rfl⟩)
            · exact ⟨by rw [ht]; exact hP.sub [0, 1, 2, 3, 4, 5, 6, 7, 8] rfl, hD.sub [0, 1, 2, 3, 4, 5, 6, 7, 8] (by decide) rfl⟩
          · -- ¬ (nI b) < (o_needs (fo a) kd)
            refine lv_iload hx hb d_Model_goOn_58 (lv_at hl 1 rfl) ?_
            refine lv_bipush (v := 8) hx hb d_Model_goOn_60 (by decide) ?_
            refine lv_icmp_gt (tgt := 80) hx hb d_Model_goOn_62 (by decide) (fun h23 => ?_) (fun h23 => ?_)
            · -- 8 < ((nI b) + (o_grow (fo a)))
              refine lv_aload_n hx hb d_Model_goOn_80 rfl (lv_at hl 3 rfl) ?_
              refine va_get (D := D) (ci := 4) (v := .ref mw) (C := R_Model) (T := F_Model) (N := 13) hx hb hts in_Model hown hE.1 hP 0 rfl rfl 5 (by decide) (hts _ k_321) (fun _ h9 => h9) rfl d_Model_goOn_81 ?_
              refine lv_iload_n hx hb d_Model_goOn_84 rfl (lv_at hl 4 rfl) ?_
              refine lv_iconst (v := 1) hx hb d_Model_goOn_85 (by decide) ?_
              refine va_zast hx hb hE.1 hP hD hS 4 1 rfl rfl (vp_in_nI (by omega) (by decide)) d_Model_goOn_86 (fun H locs hP hD hS => ?_)
              rw [nI_clamp (show a < 2 ^ 31 by omega)] at hP hD
              have hP : va_P D classes [(mo, .inr (4, [.int kd, .ref mp, .ref mq, .int (nI n), .ref mr, .ref mw, .ref mt, .ref ml, .ref mk, .ref mv, .int em, .int sp, .int rs])), (mp, .inl (cI, 64, .inl fo)), (mq, .inl (cI, 64, .inl fn)), (mr, .inl (cI, 576, .inl fR)), (mw, .inl (cZ, 64, .inl (upd fW a 1))), (mt, .inl (cI, 8, .inl fs)), (ml, .inl (cI, 4, .inl fl)), (mk, .inl (cI, 20, .inl fk)), (mv, .inl (cI, 20, .inl fv))] H := hP
              have hD : va_D A [(mo, .inr (4, [.int kd, .ref mp, .ref mq, .int (nI n), .ref mr, .ref mw, .ref mt, .ref ml, .ref mk, .ref mv, .int em, .int sp, .int rs])), (mp, .inl (cI, 64, .inl fo)), (mq, .inl (cI, 64, .inl fn)), (mr, .inl (cI, 576, .inl fR)), (mw, .inl (cZ, 64, .inl (upd fW a 1))), (mt, .inl (cI, 8, .inl fs)), (ml, .inl (cI, 4, .inl fl)), (mk, .inl (cI, 20, .inl fk)), (mv, .inl (cI, 20, .inl fv))] := hD
              refine W.vret hx hb hr (fun t ht hW => ⟨⟨(fR, (upd fW a 1)), rfl, ?_, ?_⟩, hS.F ht⟩) hS.2.2 d_Model_goOn_87
              · exact Or.inr (Or.inl ⟨hwf, fun q => q (cbd0_fit (by omega) (fit0_grow h23)), rfl⟩)
              · exact ⟨by rw [ht]; exact hP.sub [0, 1, 2, 3, 4, 5, 6, 7, 8] rfl, hD.sub [0, 1, 2, 3, 4, 5, 6, 7, 8] (by decide) rfl⟩
            · -- ¬ 8 < ((nI b) + (o_grow (fo a)))
              refine lv_iload hx hb d_Model_goOn_65 (lv_at hl 0 rfl) ?_
              refine lv_if_eq (tgt := 88) hx hb d_Model_goOn_67 (by decide) (fun h24 => ?_) (fun h24 => ?_)
              · -- 1 = 0
                exact absurd h24 (by decide)
              · -- ¬ 1 = 0
                refine lv_iload_n hx hb d_Model_goOn_70 rfl (lv_at hl 4 rfl) ?_
                refine lv_iconst (v := 1) hx hb d_Model_goOn_71 (by decide) ?_
                refine lv_iadd hx hb d_Model_goOn_72 ?_
                refine lv_aload_n hx hb d_Model_goOn_73 rfl (lv_at hl 3 rfl) ?_
                refine va_get (D := D) (ci := 4) (v := .int (nI n)) (C := R_Model) (T := F_Model) (N := 13) hx hb hts in_Model hown hE.1 hP 0 rfl rfl 3 (by decide) (hts _ k_319) (fun _ h9 => h9) rfl d_Model_goOn_74 ?_
                refine lv_icmp_ne (tgt := 88) hx hb d_Model_goOn_77 (by decide) (fun h25 => ?_) (fun h25 => ?_)
                · -- ¬ ((nI a) + 1) = (nI n)
                  have hc : cb kd (acOf kd) n fo fn a b := cbd1 hn ha hwf h22 h23 (Or.inr h25)
                  obtain ⟨-, ⟨h1, hh1, eh⟩, hxn, hjm⟩ := cb_facts hn ha hb9 hc
                  rw [eh] at hl
                  have hx1 : a + 1 < n := hxn hnx
                  refine lv_iload hx hb d_Model_goOn_88 (lv_at hl 0 rfl) ?_
                  refine lv_if_eq (tgt := 102) hx hb d_Model_goOn_90 (by decide) (fun h26 => ?_) (fun h26 => ?_)
                  · -- 1 = 0
                    exact absurd h26 (by decide)
                  · -- ¬ 1 = 0
                    refine lv_aload_n hx hb d_Model_goOn_93 rfl (lv_at hl 3 rfl) ?_
                    refine lv_iload_n hx hb d_Model_goOn_94 rfl (lv_at hl 4 rfl) ?_
                    refine lv_iconst (v := 1) hx hb d_Model_goOn_95 (by decide) ?_
                    refine lv_iadd hx hb d_Model_goOn_96 ?_
                    refine lv_eqi (y := (nI (a + 1))) (nI_1 a) ?_
                    refine lv_iload hx hb d_Model_goOn_97 (lv_at hl 1 rfl) ?_
                    have hPc := hP.sub (ws' := [(mo, .inr (4, [.int kd, .ref mp, .ref mq, .int (nI n), .ref mr, .ref mw, .ref mt, .ref ml, .ref mk, .ref mv, .int em, .int sp, .int rs])), (mp, .inl (cI, 64, .inl fo)), (mq, .inl (cI, 64, .inl fn)), (mr, .inl (cI, 576, .inl fR)), (mw, .inl (cZ, 64, .inl fW)), (mt, .inl (cI, 8, .inl fs)), (ml, .inl (cI, 4, .inl fl)), (mk, .inl (cI, 20, .inl fk)), (mv, .inl (cI, 20, .inl fv))]) [0, 1, 2, 3, 4, 5, 6, 7, 8] rfl
                    have hDc := hD.sub (ws' := [(mo, .inr (4, [.int kd, .ref mp, .ref mq, .int (nI n), .ref mr, .ref mw, .ref mt, .ref ml, .ref mk, .ref mv, .int em, .int sp, .int rs])), (mp, .inl (cI, 64, .inl fo)), (mq, .inl (cI, 64, .inl fn)), (mr, .inl (cI, 576, .inl fR)), (mw, .inl (cZ, 64, .inl fW)), (mt, .inl (cI, 8, .inl fs)), (ml, .inl (cI, 4, .inl fl)), (mk, .inl (cI, 20, .inl fk)), (mv, .inl (cI, 20, .inl fv))]) [0, 1, 2, 3, 4, 5, 6, 7, 8] (by decide) rfl
                    have hFc := va_free (wc := [(mo, .inr (4, [.int kd, .ref mp, .ref mq, .int (nI n), .ref mr, .ref mw, .ref mt, .ref ml, .ref mk, .ref mv, .int em, .int sp, .int rs])), (mp, .inl (cI, 64, .inl fo)), (mq, .inl (cI, 64, .inl fn)), (mr, .inl (cI, 576, .inl fR)), (mw, .inl (cZ, 64, .inl fW)), (mt, .inl (cI, 8, .inl fs)), (ml, .inl (cI, 4, .inl fl)), (mk, .inl (cI, 20, .inl fk)), (mv, .inl (cI, 20, .inl fv))]) hD hS hA [0, 1, 2, 3, 4, 5, 6, 7, 8] rfl
                    refine va_callv (va_runV (As := [.int (nI (a + 1)), .int (nI h1)]) (rest := []) ⟨hx, hb, hml, hown, hts⟩ (c_Model_reach l D cI cZ s.heap.size mo mp mq mr mw mt ml mk mv kd n fo fn fR fW fs fl fk fv em sp rs (a + 1) h1 (by omega) (by omega)) (cwV 2 hts (gd4 k_392 k_394 k_15 k_22 k_395) rfl rfl rfl (by decide +kernel) ⟨Nat.le_of_ble_eq_true rfl, Nat.le_of_ble_eq_true rfl⟩) ⟨MY_blind, va_recv (q0 := 0) (ci := 4) hE.1 hP rfl rfl, my_pre hE hPc hDc⟩ rfl rfl hl.1 rfl (lv_room (Nat.le_of_ble_eq_true rfl)) d_Model_goOn_99 ⟨Nat.zero_le _, Nat.zero_le _⟩) hS (fun q _ h => hFc q h) hFc (fun u t H1 locs ht hvm hw hB hz1 hk1 hS => ?_)
                    obtain ⟨hP1, hD1⟩ := hB
                    rw [ht] at hP1
                    subst hw
                    obtain ⟨hP, hD⟩ := va_join (wr := []) (w1 := [(mo, .inr (4, [.int kd, .ref mp, .ref mq, .int (nI n), .ref mr, .ref mw, .ref mt, .ref ml, .ref mk, .ref mv, .int em, .int sp, .int rs])), (mp, .inl (cI, 64, .inl fo)), (mq, .inl (cI, 64, .inl fn)), (mr, .inl (cI, 576, .inl (v_rch fR (a + 1) h1))), (mw, .inl (cZ, 64, .inl fW)), (mt, .inl (cI, 8, .inl fs)), (ml, .inl (cI, 4, .inl fl)), (mk, .inl (cI, 20, .inl fk)), (mv, .inl (cI, 20, .inl fv))]) hP hD [0, 1, 2, 3, 4, 5, 6, 7, 8] [] rfl rfl (by decide) (by decide) hk1 hFc hP1 hD1
                    generalize H1 = H at hP hS ⊢
                    have hP : va_P D classes [(mo, .inr (4, [.int kd, .ref mp, .ref mq, .int (nI n), .ref mr, .ref mw, .ref mt, .ref ml, .ref mk, .ref mv, .int em, .int sp, .int rs])), (mp, .inl (cI, 64, .inl fo)), (mq, .inl (cI, 64, .inl fn)), (mr, .inl (cI, 576, .inl (v_rch fR (a + 1) h1))), (mw, .inl (cZ, 64, .inl fW)), (mt, .inl (cI, 8, .inl fs)), (ml, .inl (cI, 4, .inl fl)), (mk, .inl (cI, 20, .inl fk)), (mv, .inl (cI, 20, .inl fv))] H := hP
                    have hD : va_D A [(mo, .inr (4, [.int kd, .ref mp, .ref mq, .int (nI n), .ref mr, .ref mw, .ref mt, .ref ml, .ref mk, .ref mv, .int em, .int sp, .int rs])), (mp, .inl (cI, 64, .inl fo)), (mq, .inl (cI, 64, .inl fn)), (mr, .inl (cI, 576, .inl (v_rch fR (a + 1) h1))), (mw, .inl (cZ, 64, .inl fW)), (mt, .inl (cI, 8, .inl fs)), (ml, .inl (cI, 4, .inl fl)), (mk, .inl (cI, 20, .inl fk)), (mv, .inl (cI, 20, .inl fv))] := hD
                    refine lv_iload_n hx hb d_Model_goOn_102 rfl (lv_at hl 2 rfl) ?_
                    refine lv_bipush (v := 14) hx hb d_Model_goOn_103 (by decide) ?_
                    refine lv_icmp_eq (tgt := 114) hx hb d_Model_goOn_105 (by decide) (fun h27 => ?_) (fun h27 => ?_)
                    · -- (fo a) = 14
                      exact absurd (by rw [h27]; first | done | decide) h2
                    · -- ¬ (fo a) = 14
                      refine lv_iload_n hx hb d_Model_goOn_108 rfl (lv_at hl 2 rfl) ?_
                      refine lv_bipush (v := 15) hx hb d_Model_goOn_109 (by decide) ?_
                      refine lv_icmp_ne (tgt := 126) hx hb d_Model_goOn_111 (by decide) (fun h28 => ?_) (fun h28 => ?_)
                      · -- ¬ (fo a) = 15
                        refine W.vret hx hb hr (fun t ht hW => ⟨⟨((v_rch fR (a + 1) h1), fW), rfl, ?_, ?_⟩, hS.F ht⟩) hS.2.2 d_Model_goOn_126
                        · (have hj1 : o_jump (fo a) = 0 := (by simp only [o_jump, h27, h28, if_true, if_false, eq_self, not_true_eq_false, not_false_eq_true, ne_eq]); exact Or.inr (Or.inr ⟨hc, h1, 0, hh1, eh, (fun q => absurd hj1 q), by simp only [v_opt, hnx, hj1, if_true, if_false, eq_self, not_true_eq_false, not_false_eq_true, ne_eq]⟩))
                        · exact ⟨by rw [ht]; exact hP.sub [0, 1, 2, 3, 4, 5, 6, 7, 8] rfl, hD.sub [0, 1, 2, 3, 4, 5, 6, 7, 8] (by decide) rfl⟩
                      · -- (fo a) = 15
                        have hj0 : ¬ o_jump (fo a) = 0 := by
                          rw [h28]; decide
                        obtain ⟨k1, hkk, ek⟩ := hjm hj0
                        refine lv_aload_n hx hb d_Model_goOn_114 rfl (lv_at hl 3 rfl) ?_
                        refine lv_aload_n hx hb d_Model_goOn_115 rfl (lv_at hl 3 rfl) ?_
                        refine va_get (D := D) (ci := 4) (v := .ref mq) (C := R_Model) (T := F_Model) (N := 13) hx hb hts in_Model hown hE.1 hP 0 rfl rfl 2 (by decide) (hts _ k_318) (fun _ h9 => h9) rfl d_Model_goOn_116 ?_
                        refine lv_iload_n hx hb d_Model_goOn_119 rfl (lv_at hl 4 rfl) ?_
                        refine va_iald hx hb hE.1 hP 2 0 rfl rfl (vp_in_nI (by omega) (by decide)) d_Model_goOn_120 ?_
                        refine lv_eqi (y := fn a) (congrArg fn (nI_clamp (show a < 2 ^ 31 by omega))) ?_
                        refine lv_eqi (y := (nI k1)) (ek) ?_
                        refine lv_iload hx hb d_Model_goOn_121 (lv_at hl 1 rfl) ?_
                        have hPc := hP.sub (ws' := [(mo, .inr (4, [.int kd, .ref mp, .ref mq, .int (nI n), .ref mr, .ref mw, .ref mt, .ref ml, .ref mk, .ref mv, .int em, .int sp, .int rs])), (mp, .inl (cI, 64, .inl fo)), (mq, .inl (cI, 64, .inl fn)), (mr, .inl (cI, 576, .inl (v_rch fR (a + 1) h1))), (mw, .inl (cZ, 64, .inl fW)), (mt, .inl (cI, 8, .inl fs)), (ml, .inl (cI, 4, .inl fl)), (mk, .inl (cI, 20, .inl fk)), (mv, .inl (cI, 20, .inl fv))]) [0, 1, 2, 3, 4, 5, 6, 7, 8] rfl
                        have hDc := hD.sub (ws' := [(mo, .inr (4, [.int kd, .ref mp, .ref mq, .int (nI n), .ref mr, .ref mw, .ref mt, .ref ml, .ref mk, .ref mv, .int em, .int sp, .int rs])), (mp, .inl (cI, 64, .inl fo)), (mq, .inl (cI, 64, .inl fn)), (mr, .inl (cI, 576, .inl (v_rch fR (a + 1) h1))), (mw, .inl (cZ, 64, .inl fW)), (mt, .inl (cI, 8, .inl fs)), (ml, .inl (cI, 4, .inl fl)), (mk, .inl (cI, 20, .inl fk)), (mv, .inl (cI, 20, .inl fv))]) [0, 1, 2, 3, 4, 5, 6, 7, 8] (by decide) rfl
                        have hFc := va_free (wc := [(mo, .inr (4, [.int kd, .ref mp, .ref mq, .int (nI n), .ref mr, .ref mw, .ref mt, .ref ml, .ref mk, .ref mv, .int em, .int sp, .int rs])), (mp, .inl (cI, 64, .inl fo)), (mq, .inl (cI, 64, .inl fn)), (mr, .inl (cI, 576, .inl (v_rch fR (a + 1) h1))), (mw, .inl (cZ, 64, .inl fW)), (mt, .inl (cI, 8, .inl fs)), (ml, .inl (cI, 4, .inl fl)), (mk, .inl (cI, 20, .inl fk)), (mv, .inl (cI, 20, .inl fv))]) hD hS hA [0, 1, 2, 3, 4, 5, 6, 7, 8] rfl
                        refine va_callv (va_runV (As := [.int (nI k1), .int (nI h1)]) (rest := []) ⟨hx, hb, hml, hown, hts⟩ (c_Model_reach l D cI cZ H.size mo mp mq mr mw mt ml mk mv kd n fo fn (v_rch fR (a + 1) h1) fW fs fl fk fv em sp rs k1 h1 (by omega) (by omega)) (cwV 2 hts (gd4 k_392 k_394 k_15 k_22 k_395) rfl rfl rfl (by decide +kernel) ⟨Nat.le_of_ble_eq_true rfl, Nat.le_of_ble_eq_true rfl⟩) ⟨MY_blind, va_recv (q0 := 0) (ci := 4) hE.1 hP rfl rfl, my_pre hE hPc hDc⟩ rfl rfl hl.1 rfl (lv_room (Nat.le_of_ble_eq_true rfl)) d_Model_goOn_123 ⟨Nat.zero_le _, Nat.zero_le _⟩) hS (fun q _ h => hFc q h) hFc (fun u t H1 locs ht hvm hw hB hz1 hk1 hS => ?_)
                        obtain ⟨hP1, hD1⟩ := hB
                        rw [ht] at hP1
                        subst hw
                        obtain ⟨hP, hD⟩ := va_join (wr := []) (w1 := [(mo, .inr (4, [.int kd, .ref mp, .ref mq, .int (nI n), .ref mr, .ref mw, .ref mt, .ref ml, .ref mk, .ref mv, .int em, .int sp, .int rs])), (mp, .inl (cI, 64, .inl fo)), (mq, .inl (cI, 64, .inl fn)), (mr, .inl (cI, 576, .inl (v_rch (v_rch fR (a + 1) h1) k1 h1))), (mw, .inl (cZ, 64, .inl fW)), (mt, .inl (cI, 8, .inl fs)), (ml, .inl (cI, 4, .inl fl)), (mk, .inl (cI, 20, .inl fk)), (mv, .inl (cI, 20, .inl fv))]) hP hD [0, 1, 2, 3, 4, 5, 6, 7, 8] [] rfl rfl (by decide) (by decide) hk1 hFc hP1 hD1
                        generalize H1 = H at hP hS ⊢
                        have hP : va_P D classes [(mo, .inr (4, [.int kd, .ref mp, .ref mq, .int (nI n), .ref mr, .ref mw, .ref mt, .ref ml, .ref mk, .ref mv, .int em, .int sp, .int rs])), (mp, .inl (cI, 64, .inl fo)), (mq, .inl (cI, 64, .inl fn)), (mr, .inl (cI, 576, .inl (v_rch (v_rch fR (a + 1) h1) k1 h1))), (mw, .inl (cZ, 64, .inl fW)), (mt, .inl (cI, 8, .inl fs)), (ml, .inl (cI, 4, .inl fl)), (mk, .inl (cI, 20, .inl fk)), (mv, .inl (cI, 20, .inl fv))] H := hP
                        have hD : va_D A [(mo, .inr (4, [.int kd, .ref mp, .ref mq, .int (nI n), .ref mr, .ref mw, .ref mt, .ref ml, .ref mk, .ref mv, .int em, .int sp, .int rs])), (mp, .inl (cI, 64, .inl fo)), (mq, .inl (cI, 64, .inl fn)), (mr, .inl (cI, 576, .inl (v_rch (v_rch fR (a + 1) h1) k1 h1))), (mw, .inl (cZ, 64, .inl fW)), (mt, .inl (cI, 8, .inl fs)), (ml, .inl (cI, 4, .inl fl)), (mk, .inl (cI, 20, .inl fk)), (mv, .inl (cI, 20, .inl fv))] := hD
                        refine W.vret hx hb hr (fun t ht hW => ⟨⟨((v_rch (v_rch fR (a + 1) h1) k1 h1), fW), rfl, ?_, ?_⟩, hS.F ht⟩) hS.2.2 d_Model_goOn_126
                        · (exact Or.inr (Or.inr ⟨hc, h1, k1, hh1, eh, (fun _ => ⟨hkk, ek⟩), by simp only [v_opt, hnx, hj0, if_true, if_false, eq_self, not_true_eq_false, not_false_eq_true, ne_eq]⟩))
                        · exact ⟨by rw [ht]; exact hP.sub [0, 1, 2, 3, 4, 5, 6, 7, 8] rfl, hD.sub [0, 1, 2, 3, 4, 5, 6, 7, 8] (by decide) rfl⟩
                · -- ((nI a) + 1) = (nI n)
                  refine lv_aload_n hx hb d_Model_goOn_80 rfl (lv_at hl 3 rfl) ?_
                  refine va_get (D := D) (ci := 4) (v := .ref mw) (C := R_Model) (T := F_Model) (N := 13) hx hb hts in_Model hown hE.1 hP 0 rfl rfl 5 (by decide) (hts _ k_321) (fun _ h9 => h9) rfl d_Model_goOn_81 ?_
                  refine lv_iload_n hx hb d_Model_goOn_84 rfl (lv_at hl 4 rfl) ?_
                  refine lv_iconst (v := 1) hx hb d_Model_goOn_85 (by decide) ?_
                  refine va_zast hx hb hE.1 hP hD hS 4 1 rfl rfl (vp_in_nI (by omega) (by decide)) d_Model_goOn_86 (fun H locs hP hD hS => ?_)
                  rw [nI_clamp (show a < 2 ^ 31 by omega)] at hP hD
                  have hP : va_P D classes [(mo, .inr (4, [.int kd, .ref mp, .ref mq, .int (nI n), .ref mr, .ref mw, .ref mt, .ref ml, .ref mk, .ref mv, .int em, .int sp, .int rs])), (mp, .inl (cI, 64, .inl fo)), (mq, .inl (cI, 64, .inl fn)), (mr, .inl (cI, 576, .inl fR)), (mw, .inl (cZ, 64, .inl (upd fW a 1))), (mt, .inl (cI, 8, .inl fs)), (ml, .inl (cI, 4, .inl fl)), (mk, .inl (cI, 20, .inl fk)), (mv, .inl (cI, 20, .inl fv))] H := hP
                  have hD : va_D A [(mo, .inr (4, [.int kd, .ref mp, .ref mq, .int (nI n), .ref mr, .ref mw, .ref mt, .ref ml, .ref mk, .ref mv, .int em, .int sp, .int rs])), (mp, .inl (cI, 64, .inl fo)), (mq, .inl (cI, 64, .inl fn)), (mr, .inl (cI, 576, .inl fR)), (mw, .inl (cZ, 64, .inl (upd fW a 1))), (mt, .inl (cI, 8, .inl fs)), (ml, .inl (cI, 4, .inl fl)), (mk, .inl (cI, 20, .inl fk)), (mv, .inl (cI, 20, .inl fv))] := hD
                  refine W.vret hx hb hr (fun t ht hW => ⟨⟨(fR, (upd fW a 1)), rfl, ?_, ?_⟩, hS.F ht⟩) hS.2.2 d_Model_goOn_87
                  · exact Or.inr (Or.inl ⟨hwf, fun q => q (cbd0_next hn ha hnx h25), rfl⟩)
                  · exact ⟨by rw [ht]; exact hP.sub [0, 1, 2, 3, 4, 5, 6, 7, 8] rfl, hD.sub [0, 1, 2, 3, 4, 5, 6, 7, 8] (by decide) rfl⟩
  · -- ¬ (v_bad kd (nI n) (fo a) (fn a)) = 0
    refine W.vret hx hb hr (fun t ht hW => ⟨⟨(fR, fW), rfl, ?_, ?_⟩, hS.F ht⟩) hS.2.2 d_Model_goOn_8
    · exact Or.inl ⟨Classical.byContradiction (fun q => h1 ((bad_wf hk (nI_ne_m1 (by omega))).mpr (by rw [← wf_wfb (by omega)]; exact q))), rfl⟩
    · exact ⟨by rw [ht]; exact hP.sub [0, 1, 2, 3, 4, 5, 6, 7, 8] rfl, hD.sub [0, 1, 2, 3, 4, 5, 6, 7, 8] (by decide) rfl⟩
