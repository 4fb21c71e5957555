/-! more of the reference, in numbers -/
theorem ix9 (a b : Nat) : 9 * nI a + nI b = nI (9 * a + b) := by rw [show (9 : Int32) = nI 9 from rfl, pk_mul, nI_add]
theorem mul9 (n : Nat) : 9 * nI n = nI (9 * n) := by rw [show (9 : Int32) = nI 9 from rfl, pk_mul]
theorem div9 {j : Nat} (h : j < 2 ^ 31) : nI j / 9 = nI (j / 9) := pk_div (d := 9) h (by omega) (by omega)
theorem rem9 {j : Nat} (h : j < 2 ^ 31) : nI j - nI j / 9 * 9 = nI (j % 9) := pk_rem (d := 9) h (by omega) (by omega)
theorem nar01 {x : Int32} (h : x = 0 ∨ x = 1) : vp_nar .boolean x = x := by
  rcases h with rfl | rfl <;> rfl
theorem i01 {c : Prop} [Decidable c] {x y : Int32} (hx : x = 0 ∨ x = 1) (hy : y = 0 ∨ y = 1) : (if c then x else y) = 0 ∨ (if c then x else y) = 1 := by
  by_cases h : c
  · rw [if_pos h]; exact hx
  · rw [if_neg h]; exact hy
theorem b01_0 : (0 : Int32) = 0 ∨ (0 : Int32) = 1 := Or.inl rfl
theorem b01_1 : (1 : Int32) = 0 ∨ (1 : Int32) = 1 := Or.inr rfl
theorem b01_14 (sz o nn : Int32) : v_b14 sz o nn = 0 ∨ v_b14 sz o nn = 1 := i01 (i01 b01_1 (i01 b01_0 b01_1)) (i01 (i01 b01_1 (i01 b01_0 b01_1)) b01_0)
theorem b01_2 (sz o nn : Int32) : v_b2 sz o nn = 0 ∨ v_b2 sz o nn = 1 := i01 (i01 b01_1 (i01 b01_0 b01_1)) (i01 (i01 b01_1 (i01 b01_0 b01_1)) (b01_14 sz o nn))
theorem b01_a (kd sz o nn : Int32) : v_b1 kd sz o nn = 0 ∨ v_b1 kd sz o nn = 1 := i01 (i01 b01_1 (i01 b01_1 (i01 (i01 b01_1 (i01 b01_1 b01_0)) b01_0))) (b01_2 sz o nn)
theorem b01_18 (kd sz o nn : Int32) : v_b18 kd sz o nn = 0 ∨ v_b18 kd sz o nn = 1 := i01 (i01 (b01_a kd sz o nn) b01_1) (b01_a kd sz o nn)
theorem bad01 (kd sz o nn : Int32) : v_bad kd sz o nn = 0 ∨ v_bad kd sz o nn = 1 := i01 b01_1 (i01 b01_1 (i01 (i01 (b01_18 kd sz o nn) b01_1) (b01_18 kd sz o nn)))
section
variable {kd ac : Int32} {n : Nat} {fo fn : Nat → Int32} {a b : Nat}
theorem fit0_needs {op h : Int32} (q : h < o_needs op kd) : p_fit kd op h = 0 := by unfold p_fit; rw [if_pos q]
theorem fit0_grow {op h : Int32} (q : 8 < h + o_grow op) : p_fit kd op h = 0 := by
  unfold p_fit
  by_cases z : h < o_needs op kd
  · rw [if_pos z]
  · rw [if_neg z, if_pos q]
theorem cbd0_fit {sz : Int32} (ha : a < 64) (q : p_fit kd (fo a) (nI b) = 0) : p_cbd kd sz ac fo fn (nI a) (nI b) = 0 := by
  unfold p_cbd
  rw [rd_in fo ha (by omega), q]
  simp
theorem cbd0_next (hn : n ≤ 64) (ha : a < n) (hx : ¬ o_next (fo a) = 0) (q : nI a + 1 = nI n) : p_cbd kd (nI n) ac fo fn (nI a) (nI b) = 0 := by
  unfold p_cbd
  rw [rd_in fo (by omega) (by omega), if_neg hx, q, show p_has (nI n) (nI n) = 0 by unfold p_has; rw [if_neg (nI_pos (by omega)), if_pos (Int32.le_refl _)], if_pos rfl]
  simp
theorem cbd1 (hn : n ≤ 64) (ha : a < n) (hw : ¬ p_wf kd (nI n) ac fo fn (nI a) = 0) (q1 : ¬ nI b < o_needs (fo a) kd) (q2 : ¬ 8 < nI b + o_grow (fo a)) (q3 : o_next (fo a) = 0 ∨ ¬ nI a + 1 = nI n) : cb kd ac n fo fn a b := by
  have hf : p_fit kd (fo a) (nI b) = 1 := by unfold p_fit; rw [if_neg q1, if_neg q2]
  unfold cb p_cbd
  rw [rd_in fo (by omega) (by omega), if_neg hw, hf]
  rcases q3 with q3 | q3
  · rw [if_pos q3]; decide
  · by_cases z : o_next (fo a) = 0
    · rw [if_pos z]; decide
    · rw [if_neg z, nI_1]
      rw [nI_1] at q3
      have h1 : a + 1 < n := by
        by_cases h : a + 1 = n
        · exact absurd (by rw [h]) q3
        · omega
      rw [has_in hn h1]; decide
end
section
variable (kd ac : Int32) (n : Nat) (fo fn : Nat → Int32)
def Bad (k : Nat) : Prop := BW kd ac n fo fn k ∨ ∃ h1 h2, h1 < 9 ∧ h2 < 9 ∧ ¬ h1 = h2 ∧ Rch kd ac n fo fn k h1 ∧ Rch kd ac n fo fn k h2
def ChkR (r : Int32) : Prop := (r = -2 ∧ ∀ k, k < n → ¬ Bad kd ac n fo fn k) ∨ ∃ k, k < n ∧ r = nI k ∧ Bad kd ac n fo fn k ∧ ∀ j, j < k → ¬ Bad kd ac n fo fn j
def HgtR (a : Nat) (r : Int32) : Prop := ∃ m, m < 512 ∧ r = nI m ∧ ∀ h, h < 9 → (m.testBit h = true ↔ Rch kd ac n fo fn a h)
end
section
variable {kd ac : Int32} {n : Nat} {fo fn : Nat → Int32}
theorem ChkR_uniq (hn : n ≤ 64) {r s : Int32} (h1 : ChkR kd ac n fo fn r) (h2 : ChkR kd ac n fo fn s) : r = s := by
  rcases h1 with ⟨rfl, a⟩ | ⟨k, hk, rfl, hb, hl⟩ <;> rcases h2 with ⟨rfl, a'⟩ | ⟨k', hk', rfl, hb', hl'⟩
  · rfl
  · exact absurd hb' (a k' hk')
  · exact absurd hb (a' k hk)
  · rcases Nat.lt_trichotomy k k' with q | q | q
    · exact absurd hb (hl' k q)
    · rw [q]
    · exact absurd hb' (hl k' q)
theorem HgtR_uniq {a : Nat} {r s : Int32} (h1 : HgtR kd ac n fo fn a r) (h2 : HgtR kd ac n fo fn a s) : r = s := by
  obtain ⟨m, hm, rfl, e⟩ := h1
  obtain ⟨m', hm', rfl, e'⟩ := h2
  have : m = m' := by
    apply Nat.eq_of_testBit_eq
    intro i
    by_cases hi : i < 9
    · have h3 := (e i hi).trans (e' i hi).symm
      cases h4 : m.testBit i <;> cases h5 : m'.testBit i <;> simp_all
    · rw [Nat.testBit_lt_two_pow (Nat.lt_of_lt_of_le hm (Nat.pow_le_pow_right (n := 2) (by omega) (by omega : 9 ≤ i))), Nat.testBit_lt_two_pow (Nat.lt_of_lt_of_le hm' (Nat.pow_le_pow_right (n := 2) (by omega) (by omega : 9 ≤ i)))]
  rw [this]
theorem init_RI (hn : n ≤ 64) (h0 : 0 < n) {g fW : Nat → Int32} (hg : ∀ i, i < 576 → g i = 0) (hw : ∀ i, i < n → fW i = if p_wf kd (nI n) ac fo fn (nI i) = 0 then 1 else 0) : RI kd ac n fo fn (fun _ => False) (fun e => if e = 0 then 1 else 0) (upd g 0 1) fW := by
  refine ⟨fun e he => ?_, fun e he h => ?_, fun i hi => ?_, fun i hi h => ?_, fun i hi h => ?_, fun e he h _ => ?_, fun _ => ?_⟩
  · show upd g 0 1 e = nI (if e = 0 then 1 else 0) ∧ (if e = 0 then 1 else 0) ≤ 2
    unfold upd
    by_cases q : e = 0
    · rw [if_pos q, if_pos q]; exact ⟨rfl, by omega⟩
    · rw [if_neg q, if_neg q]; exact ⟨hg e he, by omega⟩
  · by_cases q : e = 0
    · subst q; exact Rch_0
    · simp [q] at h
  · rw [hw i hi]; by_cases q : p_wf kd (nI n) ac fo fn (nI i) = 0
    · rw [if_pos q]; exact Or.inr rfl
    · rw [if_neg q]; exact Or.inl rfl
  · rw [hw i hi] at h
    by_cases q : p_wf kd (nI n) ac fo fn (nI i) = 0
    · exact Or.inl q
    · rw [if_neg q] at h; exact absurd h (by decide)
  · rw [hw i hi, if_pos h]
  · by_cases q : e = 0
    · simp [q] at h
    · simp [q] at h
  · simp
/-- a marked place is taken up: its mark becomes 2 -/
theorem mark_RI (hn : n ≤ 64) {r : Nat → Nat} {fR fW : Nat → Int32} {j : Nat} (hj : j < 9 * n) (hI : RI kd ac n fo fn (fun _ => False) r fR fW) (h1 : r j = 1) : RI kd ac n fo fn (fun e => e = 9 * (j / 9) + j % 9) (upN r j 2) (upd fR j 2) fW := by
  obtain ⟨i1, i2, i3, i4, i5, i6, i7⟩ := hI
  have e9 : 9 * (j / 9) + j % 9 = j := by omega
  refine ⟨fun e he => ?_, fun e he h => ?_, i3, i4, i5, fun e he h hx => ?_, fun q => ?_⟩
  · unfold upd upN
    by_cases q : e = j
    · rw [if_pos q, if_pos q]; exact ⟨rfl, by omega⟩
    · rw [if_neg q, if_neg q]; exact i1 e he
  · unfold upN at h
    by_cases q : e = j
    · subst q; exact i2 e he (by omega)
    · rw [if_neg q] at h; exact i2 e he h
  · rw [e9] at hx
    unfold upN at h
    rw [if_neg hx] at h
    have h6 := i6 e he h (fun q => q)
    refine ⟨h6.1, fun hc k' h' hn' => ?_⟩
    have h7 := h6.2 hc k' h' hn'
    unfold upN
    by_cases q : 9 * k' + h' = j
    · rw [if_pos q]; omega
    · rw [if_neg q]; exact h7
  · unfold upN
    by_cases z : 0 = j
    · rw [if_pos z]; omega
    · rw [if_neg z]; exact i7 q
end
theorem two_le (P : Nat → Bool) : ∀ N, ((List.range N).countP P ≤ 1 ↔ ∀ a b, a < N → b < N → P a = true → P b = true → a = b)
  | 0 => by simp
  | N + 1 => by
    have ih := two_le P N
    have hz : (List.range N).countP P = 0 ↔ ∀ a, a < N → ¬ P a = true := by
      rw [List.countP_eq_zero]
      exact ⟨fun h a ha => h a (List.mem_range.mpr ha), fun h a ha => h a (List.mem_range.mp ha)⟩
    rw [List.range_succ, List.countP_append]
    by_cases hp : P N = true
    · simp only [List.countP_cons, List.countP_nil, hp, if_true]
      refine ⟨fun h a b ha hb pa pb => ?_, fun h => ?_⟩
      · have h0 := hz.mp (by omega)
        by_cases qa : a = N <;> by_cases qb : b = N
        · omega
        · exact absurd pb (h0 b (by omega))
        · exact absurd pa (h0 a (by omega))
        · exact absurd pa (h0 a (by omega))
      · have h0 : (List.range N).countP P = 0 := hz.mpr (fun a ha pa => by
          have := h a N (by omega) (by omega) pa hp
          omega)
        omega
    · have hpf : P N = false := by simpa using hp
      simp only [List.countP_cons, List.countP_nil, hpf]
      refine ⟨fun h a b ha hb pa pb => ?_, fun h => ?_⟩
      · have qa : ¬ a = N := fun q => by rw [q, hpf] at pa; cases pa
        have qb : ¬ b = N := fun q => by rw [q, hpf] at pb; cases pb
        exact ih.mp (by simpa using h) a b (by omega) (by omega) pa pb
      · have := ih.mpr (fun a b ha hb => h a b (by omega) (by omega))
        simpa using this
