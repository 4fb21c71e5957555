/-! what the reference's longer methods rest on -/
theorem in_pair {pp : Nat} {k : Int32} (hp : pp ≤ 20) (h1 : ¬ k < 0) (h2 : ¬ nI pp ≤ k) : vp_in k 20 := by
  obtain ⟨j, hj, rfl⟩ := nI_of h1
  rw [nI_leI (by omega) hj] at h2
  exact vp_in_nI (by omega) (by decide)
def v_pair (em : Int32) (fk fv : Nat → Int32) (k what : Int32) : Int64 := if k < 0 then 1099511627776 else if em ≤ k then 1099511627776 else if what < 0 then 1099511627776 else if what ≤ 1 then (if what = 0 then (fk k.toNatClampNeg).toInt64 else (fv k.toNatClampNeg).toInt64) else 1099511627776
theorem pair_eq {pp : Nat} (hp : pp ≤ 20) (fk fv : Nat → Int32) (k what : Int32) : v_pair (nI pp) fk fv k what = j_pair (nI pp) fk fv k what := by
  unfold v_pair j_pair
  by_cases h1 : k < 0
  · rw [if_pos h1, if_pos h1]
  rw [if_neg h1, if_neg h1]
  by_cases h2 : nI pp ≤ k
  · rw [if_pos h2, if_neg (Int32.not_lt.mpr h2)]
  rw [if_neg h2, if_pos (Int32.not_le.mp h2)]
  obtain ⟨j, hj, rfl⟩ := nI_of h1
  rw [nI_leI (by omega) hj] at h2
  rw [rd_in fk (by omega) (by omega), rd_in fv (by omega) (by omega), nI_clamp hj]
  by_cases h3 : what = 0
  · subst h3
    rw [if_neg (show ¬ (0 : Int32) < 0 by decide), if_pos (show (0 : Int32) ≤ 1 by decide), if_pos (rfl : (0 : Int32) = 0), if_pos (rfl : (0 : Int32) = 0)]
  by_cases h4 : what = 1
  · subst h4
    rw [if_neg (show ¬ (1 : Int32) < 0 by decide), if_pos (show (1 : Int32) ≤ 1 by decide), if_neg h3, if_neg h3, if_pos (rfl : (1 : Int32) = 1)]
  rw [if_neg h3, if_neg h4, if_neg h3]
  by_cases h5 : what < 0
  · rw [if_pos h5]
  rw [if_neg h5, if_neg]
  intro h6
  obtain ⟨i, hi, rfl⟩ := nI_of2 (M := 1) (n := 1) (by decide) h5 h6
  rcases (by omega : i = 0 ∨ i = 1) with rfl | rfl
  · exact h3 rfl
  · exact h4 rfl
theorem bits_1 {mb j : Nat} {P : Nat → Prop} (hj : j < 9) (hb : mb < 512 ∧ ∀ h, h < 9 → (mb.testBit h = true ↔ (h < j ∧ P h))) (hP : P j) : mb ||| 2 ^ j < 512 ∧ ∀ h, h < 9 → ((mb ||| 2 ^ j).testBit h = true ↔ (h < j + 1 ∧ P h)) := by
  refine ⟨(bt_set mb hb.1 j hj).2, fun h hh => ?_⟩
  rw [Nat.testBit_or, Nat.testBit_two_pow, Bool.or_eq_true, hb.2 h hh, decide_eq_true_eq]
  constructor
  · rintro (⟨q, r⟩ | rfl)
    · exact ⟨by omega, r⟩
    · exact ⟨by omega, hP⟩
  · rintro ⟨q, r⟩
    by_cases e : j = h
    · exact Or.inr e
    · exact Or.inl ⟨by omega, r⟩
theorem bits_0 {mb j : Nat} {P : Nat → Prop} (hb : mb < 512 ∧ ∀ h, h < 9 → (mb.testBit h = true ↔ (h < j ∧ P h))) (hP : ¬ P j) : mb < 512 ∧ ∀ h, h < 9 → (mb.testBit h = true ↔ (h < j + 1 ∧ P h)) := by
  refine ⟨hb.1, fun h hh => ?_⟩
  rw [hb.2 h hh]
  constructor
  · rintro ⟨q, r⟩; exact ⟨by omega, r⟩
  · rintro ⟨q, r⟩
    by_cases e : h = j
    · subst e; exact absurd r hP
    · exact ⟨by omega, r⟩
def cntR (fR : Nat → Int32) (a j : Nat) : Nat := (List.range j).countP (fun h => decide (¬ fR (9 * a + h) = 0))
theorem cntR_1 {fR : Nat → Int32} {a j : Nat} (h : ¬ fR (9 * a + j) = 0) : nI (cntR fR a j) + 1 = nI (cntR fR a (j + 1)) := by
  rw [nI_1]
  unfold cntR
  rw [List.range_succ, List.countP_append]
  simp [List.countP_cons, h]
theorem cntR_0 {fR : Nat → Int32} {a j : Nat} (h : fR (9 * a + j) = 0) : nI (cntR fR a j) + 0 = nI (cntR fR a (j + 1)) := by
  rw [Int32.add_zero]
  unfold cntR
  rw [List.range_succ, List.countP_append]
  simp [List.countP_cons, h]
theorem cntR_le (fR : Nat → Int32) (a j : Nat) : cntR fR a j ≤ j := by
  have h := List.countP_le_length (p := fun h => decide (¬ fR (9 * a + h) = 0)) (l := List.range j)
  rwa [List.length_range] at h
section
variable {kd ac : Int32} {n : Nat} {fo fn fR fW : Nat → Int32}
theorem bad_wrong (hF : FillR kd ac n fo fn fR fW) {a : Nat} (ha : a < n) (h : ¬ fW a = 0) : Bad kd ac n fo fn a := Or.inl ((hF.2.2 a ha).mp ((hF.2.1 a ha).resolve_left h))
theorem bad_many (hF : FillR kd ac n fo fn fR fW) {a : Nat} (ha : a < n) (h : ¬ nI (cntR fR a 9) ≤ 1) : Bad kd ac n fo fn a := by
  have h9 := cntR_le fR a 9
  have h1 : ¬ cntR fR a 9 ≤ 1 := fun q => h (show nI (cntR fR a 9) ≤ nI 1 from nI_le q (by omega))
  unfold cntR at h1
  rw [two_le] at h1
  refine Classical.byContradiction (fun q => h1 (fun x y hx hy px py => ?_))
  refine Classical.byContradiction (fun ne => q (Or.inr ⟨x, y, hx, hy, ne, (hF.1 a x ha hx).mp (by simpa using px), (hF.1 a y ha hy).mp (by simpa using py)⟩))
theorem not_bad (hF : FillR kd ac n fo fn fR fW) {a : Nat} (ha : a < n) (h0 : fW a = 0) (h : nI (cntR fR a 9) ≤ 1) : ¬ Bad kd ac n fo fn a := by
  rintro (q | ⟨x, y, hx, hy, ne, px, py⟩)
  · have := (hF.2.2 a ha).mpr q
    rw [h0] at this
    exact absurd this (by decide)
  · have h9 := cntR_le fR a 9
    have h1 : cntR fR a 9 ≤ 1 := (nI_leI (by omega) (by omega)).mp (show nI (cntR fR a 9) ≤ nI 1 from h)
    unfold cntR at h1
    rw [two_le] at h1
    exact ne (h1 x y hx hy (by simpa using (hF.1 a x ha hx).mpr px) (by simpa using (hF.1 a y ha hy).mpr py))
/-- every way that comes to an instruction can do it -/
def Good (kd ac : Int32) (n : Nat) (fo fn : Nat → Int32) : Prop := ∀ k h, k < n → h < 9 → Rch kd ac n fo fn k h → cb kd ac n fo fn k h
theorem good_of (h : ∀ k, k < n → ¬ Bad kd ac n fo fn k) : Good kd ac n fo fn := fun k x hk hx hr => Classical.byContradiction (fun q => h k hk (Or.inl (Or.inr ⟨x, hx, hr, q⟩)))
theorem good_chk (h : ChkR kd ac n fo fn (-2)) (hn : n ≤ 64) : Good kd ac n fo fn := by
  rcases h with ⟨-, h⟩ | ⟨k, hk, e, -⟩
  · exact good_of h
  · exact absurd (show nI k < 0 by rw [← e]; decide) (nI_pos (by omega))
theorem cb_fit (hn : n ≤ 64) {a t : Nat} (ha : a < n) (h : cb kd ac n fo fn a t) : ¬ nI t < o_needs (fo a) kd ∧ ¬ 8 < nI t + o_grow (fo a) :=
  ⟨fun q => h (cbd0_fit (by omega) (fit0_needs q)), fun q => h (cbd0_fit (by omega) (fit0_grow q))⟩
theorem wf_num (hn : n ≤ 64) {a : Nat} (ha : a < n) (hw : ¬ p_wf kd (nI n) ac fo fn (nI a) = 0) {L : Nat} (hL : p_lim ac (nI n) (fo a) = nI L) (hL2 : L < 2 ^ 31) : ∃ q, q < L ∧ fn a = nI q := by
  have e1 : rd fo 64 (nI a) = fo a := rd_in fo (by omega) (by omega)
  have e2 : rd fn 64 (nI a) = fn a := rd_in fn (by omega) (by omega)
  have h3 := wf_lim hw (by rw [e1, hL]; exact nI_ne_m1 hL2)
  rw [e1, e2, hL] at h3
  obtain ⟨j, hj2, ej⟩ := nI_of h3.1
  rw [ej, nI_leI hL2 hj2] at h3
  exact ⟨j, by omega, ej⟩
end
theorem acOf_3 (kd : Int32) : ∃ L, L ≤ 3 ∧ acOf kd = nI L := by
  unfold acOf
  by_cases h1 : kd = 1
  · rw [if_pos h1]; exact ⟨3, by omega, rfl⟩
  · rw [if_neg h1]
    by_cases h2 : kd = 2
    · rw [if_pos h2]; exact ⟨3, by omega, rfl⟩
    · rw [if_neg h2]; exact ⟨2, by omega, rfl⟩
theorem m_loop_s {kd : Int32} {fo fn : Nat → Int32} {N : Nat} {o : Int32} {S S' : MS} (h : m_one (rd fo 64 (m_ap S)) (rd fn 64 (m_ap S)) kd (m_tick S) = (o, S')) : m_loop kd fo fn (N + 1) 3 S = m_loop kd fo fn N o S' := by
  show (if (3 : Int32) = 3 then _ else _) = _
  rw [if_pos rfl, h]
theorem m_loop_x {kd : Int32} {fo fn : Nat → Int32} {o : Int32} {S : MS} (h : ¬ o = 3) : ∀ N, m_loop kd fo fn N o S = (o, S)
  | 0 => rfl
  | N + 1 => by show (if o = 3 then _ else _) = _; rw [if_neg h]
theorem nI_m2 (t : Nat) : nI (t + 2) + (-2) = nI t := by
  rw [show (-2 : Int32) = (-1) + (-1) from rfl, ← Int32.add_assoc, pk_m1, pk_m1]
theorem bad_if {kd : Int32} {n : Nat} {fo fn : Nat → Int32} (hk : kd = 0 ∨ kd = 1 ∨ kd = 2 ∨ kd = 3) (hn : n ≤ 64) {i : Nat} (hi : i < 64) : v_bad kd (nI n) (fo i) (fn i) = if p_wf kd (nI n) (acOf kd) fo fn (nI i) = 0 then 1 else 0 := by
  rw [wf_wfb hi]
  by_cases h : wfb kd (nI n) (acOf kd) (fo i) (fn i) = 0
  · rw [if_pos h]
    exact (bad01 kd (nI n) (fo i) (fn i)).resolve_left (fun q => (bad_wf hk (nI_ne_m1 (by omega))).mp q h)
  · rw [if_neg h]
    exact (bad_wf hk (nI_ne_m1 (by omega))).mpr h
theorem nI_s2 (t : Nat) : nI (t + 2) - 2 = nI t := pk_sub (a := t + 2) (b := 2) (by omega)
theorem P_arrK {D : va_G} {cl : List vw_C} {ws : va_W} {k a n : Nat} {cA : ClassId} {f g : Nat → Int32} {H : Heap} (hP : va_P D cl ws H) (hk : ws[k]? = some (a, .inl (cA, n, .inl f))) (h : ∀ j, j < n → f j = g j) : va_P D cl (ws.set k (a, .inl (cA, n, .inl g))) H := by
  have hl := (List.getElem?_eq_some_iff.mp hk).1
  intro i q hi
  by_cases hik : i = k
  · subst hik
    rw [List.getElem?_set_self hl] at hi
    cases hi
    show H[a]? = some (vp_cell cA (n, .inl g))
    rw [← arr_congr h]
    exact hP i _ hk
  · rw [List.getElem?_set_ne (Ne.symm hik)] at hi
    exact hP i q hi
theorem fin_ne {o1 r : Int32} {S : MS} (h : r = if o1 = 3 then 2 else o1) (h2 : ¬ r = 2) : m_fin (o1, S) = (r, S) := by
  by_cases q : o1 = 3
  · rw [if_pos q] at h; exact absurd h h2
  · rw [if_neg q] at h
    subst h
    show (if r = 3 then _ else if r = 2 then _ else _) = _
    rw [if_neg q, if_neg h2]
theorem fin_eq {o1 r : Int32} {S : MS} (h : r = if o1 = 3 then 2 else o1) (h2 : r = 2) : m_fin (o1, S) = (2, m_zero S) := by
  show (if o1 = 3 then _ else if o1 = 2 then _ else _) = _
  by_cases q : o1 = 3
  · rw [if_pos q]
  · rw [if_neg q] at h ⊢
    rw [if_pos (h.symm.trans h2)]
