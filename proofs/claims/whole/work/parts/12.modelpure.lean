/-! the reference's small methods, as their branches go, and that they say the same as the class's -/
def acOf (kd : Int32) : Int32 := if kd = 1 then 3 else if kd = 2 then 3 else 2
def v_b14 (sz o nn : Int32) : Int32 := if o = 14 then (if nn < 0 then 1 else if nn < sz then 0 else 1) else if o = 15 then (if nn < 0 then 1 else if nn < sz then 0 else 1) else 0
def v_b2 (sz o nn : Int32) : Int32 := if o = 2 then (if nn < 0 then 1 else if nn ≤ 3 then 0 else 1) else if o = 3 then (if nn < 0 then 1 else if nn ≤ 3 then 0 else 1) else v_b14 sz o nn
def v_b1 (kd sz o nn : Int32) : Int32 := if o = 1 then (if nn < 0 then 1 else if 2 < nn then 1 else if nn = 2 then (if kd = 0 then 1 else if kd = 3 then 1 else 0) else 0) else v_b2 sz o nn
def v_b18 (kd sz o nn : Int32) : Int32 := if o = 18 then (if kd = 3 then v_b1 kd sz o nn else 1) else v_b1 kd sz o nn
def v_bad (kd sz o nn : Int32) : Int32 := if o < 0 then 1 else if 18 < o then 1 else if o = 16 then (if kd = 0 then v_b18 kd sz o nn else 1) else v_b18 kd sz o nn
def v_n3 (kd o : Int32) : Int32 := if o = 3 then 1 else if o = 4 then 1 else if o = 6 then 1 else if o = 15 then 1 else if o = 17 then (if kd = 0 then 0 else 1) else 0
def v_needs (kd o : Int32) : Int32 := if o = 5 then 2 else if o < 7 then (if o = 16 then 2 else v_n3 kd o) else if o ≤ 13 then 2 else if o = 16 then 2 else v_n3 kd o
def v_g15 (o : Int32) : Int32 := if o = 15 then -1 else if o = 16 then -2 else 0
def v_grow (o : Int32) : Int32 := if o ≤ 2 then 1 else if o = 4 then 1 else if o = 3 then -1 else if o = 6 then -1 else if o < 7 then v_g15 o else if o ≤ 13 then -1 else v_g15 o
theorem grow_eq : ∀ o, o < 19 → v_grow (nI o) = o_grow (nI o) := by decide +kernel
theorem needs_0 : ∀ o, o < 19 → v_needs 0 (nI o) = o_needs (nI o) 0 := by decide +kernel
theorem needs_1 : ∀ o, o < 19 → v_needs 1 (nI o) = o_needs (nI o) 1 := by decide +kernel
theorem needs_eq (kd : Int32) {o : Nat} (ho : o < 19) : v_needs kd (nI o) = o_needs (nI o) kd := by
  by_cases hk : kd = 0
  · subst hk; exact needs_0 o ho
  · have e1 : v_needs kd (nI o) = v_needs 1 (nI o) := by
      unfold v_needs v_n3
      rw [if_neg hk, if_neg (show ¬ (1 : Int32) = 0 by decide)]
    have e2 : o_needs (nI o) kd = o_needs (nI o) 1 := by
      unfold o_needs
      rw [if_neg hk, if_neg (show ¬ (1 : Int32) = 0 by decide)]
    rw [e1, e2, needs_1 o ho]
def wfb (kd sz ac o nn : Int32) : Int32 := if o_isOf o kd = 0 then 0 else if p_lim ac sz o = -1 then 1 else if nn < 0 then 0 else if p_lim ac sz o ≤ nn then 0 else 1
theorem i32_3 (x : Int32) : (3 : Int32) ≤ x ↔ 2 < x := by
  rw [Int32.le_iff_toInt_le, Int32.lt_iff_toInt_lt, show (3 : Int32).toInt = 3 by decide, show (2 : Int32).toInt = 2 by decide]
  omega
theorem i32_4 (x : Int32) : (4 : Int32) ≤ x ↔ ¬ x ≤ 3 := by
  rw [Int32.le_iff_toInt_le, Int32.le_iff_toInt_le, show (3 : Int32).toInt = 3 by decide, show (4 : Int32).toInt = 4 by decide]
  omega
theorem i32_2 (x : Int32) : (2 : Int32) ≤ x ↔ (2 < x ∨ x = 2) := by
  rw [Int32.le_iff_toInt_le, Int32.lt_iff_toInt_lt, ← Int32.toInt_inj, show (2 : Int32).toInt = 2 by decide]
  omega
theorem bad_wf {kd sz o nn : Int32} (hk : kd = 0 ∨ kd = 1 ∨ kd = 2 ∨ kd = 3) (hs : ¬ sz = -1) : v_bad kd sz o nn = 0 ↔ ¬ wfb kd sz (acOf kd) o nn = 0 := by
  by_cases h0 : o < 0
  · have h1 : v_bad kd sz o nn = 1 := by unfold v_bad; rw [if_pos h0]
    have h2 : o_isOf o kd = 0 := by
      unfold o_isOf
      rw [if_neg (fun e => by subst e; exact absurd h0 (by decide)), if_neg (fun e => by subst e; exact absurd h0 (by decide)), if_pos h0]
    rw [h1]
    unfold wfb
    rw [if_pos h2]
    decide
  by_cases h18 : 18 < o
  · have h1 : v_bad kd sz o nn = 1 := by unfold v_bad; rw [if_neg h0, if_pos h18]
    have h2 : o_isOf o kd = 0 := by
      unfold o_isOf
      rw [if_neg (fun e => by subst e; exact absurd h18 (by decide)), if_neg (fun e => by subst e; exact absurd h18 (by decide)), if_neg h0, if_pos (Int32.lt_trans (by decide) h18)]
    rw [h1]
    unfold wfb
    rw [if_pos h2]
    decide
  obtain ⟨j, hj, rfl⟩ := nI_of2 (M := 18) (n := 18) (by decide) h0 (Int32.not_lt.mp h18)
  have hJ : ∀ z : Int32, (if nn < 0 then (1 : Int32) else if nn < sz then 0 else 1) = 0 ↔ ¬ (if sz = -1 then (1 : Int32) else if nn < 0 then 0 else if sz ≤ nn then 0 else 1) = 0 := fun _ => by
    rw [if_neg hs]
    by_cases a : nn < 0
    · rw [if_pos a, if_pos a]; decide
    · rw [if_neg a, if_neg a]
      by_cases b : nn < sz
      · rw [if_pos b, if_neg (Int32.not_le.mpr b)]; decide
      · rw [if_neg b, if_pos (Int32.not_lt.mp b)]; decide
  have hL : (if nn < 0 then (1 : Int32) else if nn ≤ 3 then 0 else 1) = 0 ↔ ¬ (if nn < 0 then (0 : Int32) else if (4 : Int32) ≤ nn then 0 else 1) = 0 := by
    by_cases a : nn < 0
    · rw [if_pos a, if_pos a]; decide
    · rw [if_neg a, if_neg a]
      by_cases b : nn ≤ 3
      · rw [if_pos b, if_neg (fun q => (i32_4 nn).mp q b)]; decide
      · rw [if_neg b, if_pos ((i32_4 nn).mpr b)]; decide
  have hA3 : (if nn < 0 then (1 : Int32) else if 2 < nn then 1 else if nn = 2 then 0 else 0) = 0 ↔ ¬ (if nn < 0 then (0 : Int32) else if (3 : Int32) ≤ nn then 0 else 1) = 0 := by
    by_cases a : nn < 0
    · rw [if_pos a, if_pos a]; decide
    · rw [if_neg a, if_neg a]
      by_cases b : 2 < nn
      · rw [if_pos b, if_pos ((i32_3 nn).mpr b)]; decide
      · rw [if_neg b, if_neg (fun q => b ((i32_3 nn).mp q)), ite_self]; decide
  have hA2 : (if nn < 0 then (1 : Int32) else if 2 < nn then 1 else if nn = 2 then 1 else 0) = 0 ↔ ¬ (if nn < 0 then (0 : Int32) else if (2 : Int32) ≤ nn then 0 else 1) = 0 := by
    by_cases a : nn < 0
    · rw [if_pos a, if_pos a]; decide
    · rw [if_neg a, if_neg a]
      by_cases b : 2 < nn
      · rw [if_pos b, if_pos ((i32_2 nn).mpr (Or.inl b))]; decide
      · rw [if_neg b]
        by_cases c : nn = 2
        · rw [if_pos c, if_pos ((i32_2 nn).mpr (Or.inr c))]; decide
        · rw [if_neg c, if_neg (fun q => ((i32_2 nn).mp q).elim b c)]; decide
  rcases (by omega : j = 1 ∨ j = 2 ∨ j = 3 ∨ j = 14 ∨ j = 15 ∨ j = 16 ∨ j = 18 ∨ (j = 0 ∨ j = 4 ∨ j = 5 ∨ j = 6 ∨ j = 7 ∨ j = 8 ∨ j = 9 ∨ j = 10 ∨ j = 11 ∨ j = 12 ∨ j = 13 ∨ j = 17)) with rfl | rfl | rfl | rfl | rfl | rfl | rfl | h
  · rcases hk with rfl | rfl | rfl | rfl
    · exact hA2
    · exact hA3
    · exact hA3
    · exact hA2
  · exact hL
  · exact hL
  · exact hJ 0
  · exact hJ 0
  · rcases hk with rfl | rfl | rfl | rfl
    · exact ⟨fun _ q => absurd q (by decide : ¬ (1 : Int32) = 0), fun _ => rfl⟩
    · exact ⟨fun q => absurd q (by decide : ¬ (1 : Int32) = 0), fun q => absurd (rfl : (0 : Int32) = 0) q⟩
    · exact ⟨fun q => absurd q (by decide : ¬ (1 : Int32) = 0), fun q => absurd (rfl : (0 : Int32) = 0) q⟩
    · exact ⟨fun q => absurd q (by decide : ¬ (1 : Int32) = 0), fun q => absurd (rfl : (0 : Int32) = 0) q⟩
  · rcases hk with rfl | rfl | rfl | rfl
    · exact ⟨fun q => absurd q (by decide : ¬ (1 : Int32) = 0), fun q => absurd (rfl : (0 : Int32) = 0) q⟩
    · exact ⟨fun q => absurd q (by decide : ¬ (1 : Int32) = 0), fun q => absurd (rfl : (0 : Int32) = 0) q⟩
    · exact ⟨fun q => absurd q (by decide : ¬ (1 : Int32) = 0), fun q => absurd (rfl : (0 : Int32) = 0) q⟩
    · exact ⟨fun _ q => absurd q (by decide : ¬ (1 : Int32) = 0), fun _ => rfl⟩
  · rcases h with rfl | rfl | rfl | rfl | rfl | rfl | rfl | rfl | rfl | rfl | rfl | rfl <;> exact ⟨fun _ q => absurd q (by decide : ¬ (1 : Int32) = 0), fun _ => rfl⟩
theorem wf_wfb {kd sz ac : Int32} {fo fn : Nat → Int32} {a : Nat} (ha : a < 64) : p_wf kd sz ac fo fn (nI a) = wfb kd sz ac (fo a) (fn a) := by
  unfold p_wf wfb
  rw [rd_in fo ha (by omega), rd_in fn ha (by omega)]
