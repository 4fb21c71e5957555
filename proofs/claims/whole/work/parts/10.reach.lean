/-! the ways of a program: what can be reached, in numbers -/
theorem rd_in (f : Nat → Int32) {n j : Nat} (hj : j < n) (hn : n < 2 ^ 31) : rd f n (nI j) = f j := by
  unfold rd
  rw [if_neg (nI_pos (by omega)), if_neg (by rw [nI_leI hn (by omega)]; omega), nI_clamp (by omega)]
theorem wr_in (f : Nat → Int32) {n j : Nat} (hj : j < n) (hn : n < 2 ^ 31) (v : Int32) : wr f n (nI j) v = upd f j v := by
  unfold wr
  rw [if_neg (nI_pos (by omega)), if_neg (by rw [nI_leI hn (by omega)]; omega), nI_clamp (by omega)]
theorem has_in {n k : Nat} (hn : n ≤ 64) (hk : k < n) : p_has (nI n) (nI k) = 1 := by
  unfold p_has
  rw [if_neg (nI_pos (by omega)), if_neg (by rw [nI_leI (by omega) (by omega)]; omega)]
theorem bt_get : ∀ m, m < 512 → ∀ h, h < 9 → (((nI m >>> (nI h &&& 31)) &&& 1 = 0) ↔ m.testBit h = false) := by decide +kernel
theorem bt_set : ∀ m, m < 512 → ∀ h, h < 9 → nI m ||| (1 <<< (nI h &&& 31)) = nI (m ||| 2 ^ h) ∧ m ||| 2 ^ h < 512 := by decide +kernel
theorem fit_h : ∀ o, o < 19 → ∀ h, h < 9 → ¬ nI h < rd tNeeds 19 (nI o) → ¬ 8 < nI h + o_grow (nI o) → (nI h + o_grow (nI o)).toNatClampNeg < 9 ∧ nI h + o_grow (nI o) = nI (nI h + o_grow (nI o)).toNatClampNeg := by decide +kernel
theorem isOf_o {op kd : Int32} (h : ¬ o_isOf op kd = 0) : ∃ o, o < 19 ∧ op = nI o := by
  unfold o_isOf at h
  by_cases h16 : op = 16
  · exact ⟨16, by omega, h16⟩
  by_cases h18 : op = 18
  · exact ⟨18, by omega, h18⟩
  rw [if_neg h16, if_neg h18] at h
  by_cases h0 : op < 0
  · rw [if_pos h0] at h; exact absurd rfl h
  rw [if_neg h0] at h
  by_cases h17 : 17 < op
  · rw [if_pos h17] at h; exact absurd rfl h
  obtain ⟨j, hj, e⟩ := nI_of2 (M := 17) (n := 17) (by decide) h0 (Int32.not_lt.mp h17)
  exact ⟨j, by omega, e⟩
theorem wf_isOf {kd sz ac : Int32} {fo fn : Nat → Int32} {k : Int32} (h : ¬ p_wf kd sz ac fo fn k = 0) : ¬ o_isOf (rd fo 64 k) kd = 0 := by
  intro h1
  unfold p_wf at h
  rw [if_pos h1] at h
  exact h rfl
theorem wf_lim {kd sz ac : Int32} {fo fn : Nat → Int32} {k : Int32} (h : ¬ p_wf kd sz ac fo fn k = 0) (hl : ¬ p_lim ac sz (rd fo 64 k) = -1) : ¬ rd fn 64 k < 0 ∧ ¬ p_lim ac sz (rd fo 64 k) ≤ rd fn 64 k := by
  unfold p_wf at h
  rw [if_neg (wf_isOf (by unfold p_wf; exact h)), if_neg hl] at h
  by_cases h0 : rd fn 64 k < 0
  · rw [if_pos h0] at h; exact absurd rfl h
  rw [if_neg h0] at h
  by_cases h1 : p_lim ac sz (rd fo 64 k) ≤ rd fn 64 k
  · rw [if_pos h1] at h; exact absurd rfl h
  exact ⟨h0, h1⟩
theorem nI_ne_m1 {n : Nat} (h : n < 2 ^ 31) : ¬ nI n = -1 := fun e => by
  have h1 := nI_pos h
  rw [e] at h1
  exact h1 (by decide)
theorem jump_lim {ac sz op : Int32} (h : ¬ o_jump op = 0) : p_lim ac sz op = sz := by
  unfold o_jump at h
  by_cases h14 : op = 14
  · subst h14; rfl
  by_cases h15 : op = 15
  · subst h15; rfl
  rw [if_neg h14, if_neg h15] at h
  exact absurd rfl h
section
variable (kd ac : Int32) (n : Nat) (fo fn : Nat → Int32)
/-- k can be done with height h -/
def cb (k h : Nat) : Prop := ¬ p_cbd kd (nI n) ac fo fn (nI k) (nI h) = 0
/-- k' with h' comes next after k with h -/
def nxt (k h k' h' : Nat) : Prop := k' < n ∧ h' < 9 ∧ nI h + o_grow (fo k) = nI h' ∧ ((¬ o_next (fo k) = 0 ∧ k' = k + 1) ∨ (¬ o_jump (fo k) = 0 ∧ fn k = nI k'))
def clo (S : Nat → Nat → Prop) : Prop := ∀ k h k' h', k < n → h < 9 → S k h → cb kd ac n fo fn k h → nxt n fo fn k h k' h' → S k' h'
def Rch (k h : Nat) : Prop := ∀ S : Nat → Nat → Prop, S 0 0 → clo kd ac n fo fn S → S k h
end
section
variable {kd ac : Int32} {n : Nat} {fo fn : Nat → Int32}
theorem Rch_0 : Rch kd ac n fo fn 0 0 := fun _ h _ => h
theorem Rch_s {k h k' h' : Nat} (hk : k < n) (hh : h < 9) (h1 : Rch kd ac n fo fn k h) (hc : cb kd ac n fo fn k h) (hn : nxt n fo fn k h k' h') : Rch kd ac n fo fn k' h' := fun S h0 hS => hS k h k' h' hk hh (h1 S h0 hS) hc hn
theorem cb_facts (hn : n ≤ 64) {k h : Nat} (hk : k < n) (hh : h < 9) (hc : cb kd ac n fo fn k h) :
    ¬ p_wf kd (nI n) ac fo fn (nI k) = 0 ∧ (∃ h', h' < 9 ∧ nI h + o_grow (fo k) = nI h') ∧ (¬ o_next (fo k) = 0 → k + 1 < n) ∧ (¬ o_jump (fo k) = 0 → ∃ k', k' < n ∧ fn k = nI k') := by
  have e1 : rd fo 64 (nI k) = fo k := rd_in fo (by omega) (by omega)
  have e2 : rd fn 64 (nI k) = fn k := rd_in fn (by omega) (by omega)
  unfold cb p_cbd at hc
  rw [e1] at hc
  by_cases hw : p_wf kd (nI n) ac fo fn (nI k) = 0
  · rw [if_pos hw] at hc; exact absurd rfl hc
  rw [if_neg hw] at hc
  have hf : ¬ p_fit kd (fo k) (nI h) = 0 ∧ (¬ o_next (fo k) = 0 → k + 1 < n) := by
    by_cases hx : o_next (fo k) = 0
    · rw [if_pos hx] at hc
      exact ⟨hc, fun h => absurd hx h⟩
    · rw [if_neg hx] at hc
      by_cases h2 : p_has (nI n) (nI k + 1) = 0
      · rw [if_pos h2] at hc; exact absurd rfl hc
      · rw [if_neg h2] at hc
        refine ⟨hc, fun _ => ?_⟩
        by_cases h3 : k + 1 < n
        · exact h3
        · exfalso
          apply h2
          unfold p_has
          rw [nI_1, if_neg (nI_pos (by omega)), if_pos (by rw [nI_leI (by omega) (by omega)]; omega)]
  refine ⟨hw, ?_, hf.2, fun hj => ?_⟩
  · obtain ⟨o, ho, eo⟩ := isOf_o (wf_isOf hw)
    rw [e1] at eo
    have hf1 := hf.1
    rw [eo] at hf1 ⊢
    unfold p_fit at hf1
    by_cases h1 : nI h < o_needs (nI o) kd
    · rw [if_pos h1] at hf1; exact absurd rfl hf1
    rw [if_neg h1] at hf1
    by_cases h2 : 8 < nI h + o_grow (nI o)
    · rw [if_pos h2] at hf1; exact absurd rfl hf1
    by_cases h17 : o = 17
    · subst h17
      exact ⟨h, hh, by show nI h + 0 = nI h; exact Int32.add_zero _⟩
    · have h3 : o_needs (nI o) kd = rd tNeeds 19 (nI o) := by
        unfold o_needs
        rw [if_neg (show ¬ nI o = (17 : Int32) from fun q => h17 ((nI_eq (by omega) (by omega)).mp (q : nI o = nI 17)))]
      rw [h3] at h1
      exact ⟨_, (fit_h o ho h hh h1 h2).1, (fit_h o ho h hh h1 h2).2⟩
  · have hl : p_lim ac (nI n) (rd fo 64 (nI k)) = nI n := by rw [e1]; exact jump_lim hj
    have h3 := wf_lim hw (by rw [hl]; exact nI_ne_m1 (by omega))
    rw [hl, e2] at h3
    obtain ⟨j, hj2, ej⟩ := nI_of h3.1
    rw [ej, nI_leI (by omega) hj2] at h3
    exact ⟨j, by omega, ej⟩
end
/-- how many of the first N hold -/
theorem cnt_add (P Q : Nat → Bool) (e0 : Nat) (h0 : P e0 = false) (hq : ∀ e, Q e = (P e || decide (e = e0))) : ∀ N, (List.range N).countP Q = (List.range N).countP P + (if e0 < N then 1 else 0)
  | 0 => by simp
  | N + 1 => by
    rw [List.range_succ, List.countP_append, List.countP_append, cnt_add P Q e0 h0 hq N]
    by_cases h : N = e0
    · subst h
      simp [List.countP_cons, hq, h0]
    · have hQ : Q N = P N := by rw [hq]; simp [h]
      simp only [List.countP_cons, List.countP_nil, hQ]
      by_cases h2 : e0 < N
      · rw [if_pos h2, if_pos (show e0 < N + 1 by omega)]; omega
      · rw [if_neg h2, if_neg (show ¬ e0 < N + 1 by omega)]; omega
def cntB (m : Nat → Nat) : Nat := (List.range 576).countP (fun e => (m (e / 9)).testBit (e % 9))
theorem cntB_le (m : Nat → Nat) : cntB m ≤ 576 := by
  have h := List.countP_le_length (p := fun e => (m (e / 9)).testBit (e % 9)) (l := List.range 576)
  rwa [List.length_range] at h
def addB (m : Nat → Nat) (k h : Nat) : Nat → Nat := fun j => if j = k then m k ||| 2 ^ h else m j
theorem addB_bit (m : Nat → Nat) (k h j i : Nat) : (addB m k h j).testBit i = ((m j).testBit i || (decide (j = k) && decide (i = h))) := by
  unfold addB
  by_cases hj : j = k
  · subst hj
    rw [if_pos rfl, Nat.testBit_or, Nat.testBit_two_pow]
    simp [eq_comm]
  · rw [if_neg hj]
    simp [hj]
theorem cntB_add {m : Nat → Nat} {k h : Nat} (hk : k < 64) (hh : h < 9) (hb : (m k).testBit h = false) : cntB (addB m k h) = cntB m + 1 := by
  unfold cntB
  have e := cnt_add (fun e => (m (e / 9)).testBit (e % 9)) (fun e => (addB m k h (e / 9)).testBit (e % 9)) (9 * k + h) (by
    show (m ((9 * k + h) / 9)).testBit ((9 * k + h) % 9) = false
    rw [show (9 * k + h) / 9 = k by omega, show (9 * k + h) % 9 = h by omega]
    exact hb) (fun e => by
    show (addB m k h (e / 9)).testBit (e % 9) = _
    rw [addB_bit]
    congr 1
    rw [← Bool.decide_and]
    exact decide_eq_decide.mpr ⟨fun q => by omega, fun q => by omega⟩) 576
  rw [e, if_pos (by omega)]
/-- the class's three rows, in numbers: m: the bits; g: what waits, c of them -/
def WI (n : Nat) (Rc : Nat → Nat → Prop) (c : Nat) (m g : Nat → Nat) (u : WS) : Prop :=
  (∀ k, k < 64 → u.1 k = nI (m k) ∧ m k < 512) ∧ (∀ j, j < c → u.2.1 j = nI (g j) ∧ g j < 9 * n ∧ (m (g j / 9)).testBit (g j % 9) = true) ∧ u.2.2 = nI c ∧ c = cntB m ∧
  (∀ k h, k < n → h < 9 → (m k).testBit h = true → (∃ j, j < c ∧ g j = 9 * k + h) ∧ Rc k h)
theorem WI_0 (n : Nat) (Rc : Nat → Nat → Prop) (fw : Nat → Int32) : WI n Rc 0 (fun _ => 0) (fun _ => 0) (fun _ => 0, fw, 0) := by
  refine ⟨fun k _ => ⟨rfl, by show 0 < 512; decide⟩, fun j h => absurd h (Nat.not_lt_zero j), rfl, ?_, fun k h _ _ hb => ?_⟩
  · show 0 = (List.range 576).countP _
    symm
    rw [List.countP_eq_zero]
    intro e _
    simp
  · simp at hb
theorem reach_ok {n : Nat} {Rc : Nat → Nat → Prop} {c : Nat} {m g : Nat → Nat} {u : WS} (hn : n ≤ 64) (hI : WI n Rc c m g u) {k h : Nat} (hk : k < n) (hh : h < 9) (hR : Rc k h) :
    ∃ (c' : Nat) (m' g' : Nat → Nat), WI n Rc c' m' g' (w_reach (nI n) (nI k) (nI h) u) ∧ c ≤ c' ∧ (∀ j, j < c → g' j = g j) ∧ (∀ a b, (m a).testBit b = true → (m' a).testBit b = true) ∧ (m' k).testBit h = true := by
  obtain ⟨h1, h2, h3, h4, h5⟩ := hI
  have hc : c ≤ 576 := by rw [h4]; exact cntB_le m
  have e1 : rd u.1 64 (nI k) = nI (m k) := by rw [rd_in u.1 (by omega) (by omega)]; exact (h1 k (by omega)).1
  unfold w_reach
  rw [has_in hn hk, if_neg (by decide)]
  unfold w_isR
  rw [e1]
  by_cases hb : (m k).testBit h = true
  · have h0 : ¬ ((nI (m k) >>> (nI h &&& 31)) &&& 1 = 0) := fun q => by
      rw [bt_get (m k) (h1 k (by omega)).2 h hh, hb] at q
      exact Bool.noConfusion q
    rw [if_neg h0, if_neg (by decide)]
    exact ⟨c, m, g, ⟨h1, h2, h3, h4, h5⟩, Nat.le_refl _, fun _ _ => rfl, fun _ _ q => q, hb⟩
  · have hb : (m k).testBit h = false := by simpa using hb
    have h0 : (nI (m k) >>> (nI h &&& 31)) &&& 1 = 0 := (bt_get (m k) (h1 k (by omega)).2 h hh).mpr hb
    have hc' : c + 1 = cntB (addB m k h) := by rw [cntB_add (by omega) hh hb, h4]
    have hc2 : c + 1 ≤ 576 := by rw [hc']; exact cntB_le _
    rw [if_pos h0, if_pos rfl, (bt_set (m k) (h1 k (by omega)).2 h hh).1, wr_in u.1 (by omega) (by omega), h3, wr_in u.2.1 (by omega) (by omega), nI_1, show nI k * 9 + nI h = nI (k * 9 + h) by rw [show (9 : Int32) = nI 9 from rfl, pk_mul, nI_add]]
    refine ⟨c + 1, addB m k h, fun j => if j = c then 9 * k + h else g j, ⟨fun a ha => ?_, fun j hj => ?_, rfl, hc', fun a b ha hb' hab => ?_⟩, Nat.le_succ _, fun j hj => if_neg (by omega), fun a b hab => ?_, ?_⟩
    · show upd u.1 k (nI (m k ||| 2 ^ h)) a = nI (addB m k h a) ∧ addB m k h a < 512
      unfold upd addB
      by_cases e : a = k
      · rw [if_pos e, if_pos e]
        exact ⟨rfl, (bt_set (m k) (h1 k (by omega)).2 h hh).2⟩
      · rw [if_neg e, if_neg e]
        exact h1 a ha
    · show upd u.2.1 c (nI (k * 9 + h)) j = nI (if j = c then 9 * k + h else g j) ∧ (if j = c then 9 * k + h else g j) < 9 * n ∧ (addB m k h ((if j = c then 9 * k + h else g j) / 9)).testBit ((if j = c then 9 * k + h else g j) % 9) = true
      unfold upd
      by_cases e : j = c
      · rw [if_pos e, if_pos e, show (9 * k + h) / 9 = k by omega, show (9 * k + h) % 9 = h by omega, addB_bit]
        exact ⟨by rw [Nat.mul_comm], by omega, by simp⟩
      · rw [if_neg e, if_neg e, addB_bit]
        have h6 := h2 j (by omega)
        exact ⟨h6.1, h6.2.1, by rw [h6.2.2]; rfl⟩
    · rw [addB_bit] at hab
      by_cases hab1 : (m a).testBit b = true
      · obtain ⟨⟨j, hj, ej⟩, hr⟩ := h5 a b ha hb' hab1
        exact ⟨⟨j, by omega, by show (if j = c then 9 * k + h else g j) = _; rw [if_neg (by omega)]; exact ej⟩, hr⟩
      · simp [hab1] at hab
        obtain ⟨rfl, rfl⟩ := hab
        exact ⟨⟨c, by omega, by show (if c = c then _ else _) = _; rw [if_pos rfl]⟩, hR⟩
    · rw [addB_bit, hab]; rfl
    · rw [addB_bit]; simp
section
variable {kd ac : Int32} {n : Nat} {fo fn : Nat → Int32}
theorem goOn_ok {c : Nat} {m g : Nat → Nat} {u : WS} (hn : n ≤ 64) (hI : WI n (Rch kd ac n fo fn) c m g u) {k h : Nat} (hk : k < n) (hh : h < 9) (hb : (m k).testBit h = true) :
    ∃ (c' : Nat) (m' g' : Nat → Nat), WI n (Rch kd ac n fo fn) c' m' g' (w_goOn kd (nI n) ac fo fn (nI k) (nI h) u) ∧ c ≤ c' ∧ (∀ j, j < c → g' j = g j) ∧ (∀ a b, (m a).testBit b = true → (m' a).testBit b = true) ∧ (cb kd ac n fo fn k h → ∀ k' h', nxt n fo fn k h k' h' → (m' k').testBit h' = true) := by
  have e1 : rd fo 64 (nI k) = fo k := rd_in fo (by omega) (by omega)
  have e2 : rd fn 64 (nI k) = fn k := rd_in fn (by omega) (by omega)
  have hR := (hI.2.2.2.2 k h hk hh hb).2
  unfold w_goOn
  rw [e1, e2]
  by_cases hc : p_cbd kd (nI n) ac fo fn (nI k) (nI h) = 0
  · rw [if_pos hc]
    exact ⟨c, m, g, hI, Nat.le_refl _, fun _ _ => rfl, fun _ _ q => q, fun q => absurd hc q⟩
  rw [if_neg hc]
  obtain ⟨-, ⟨h1, hh1, eh⟩, hx, hj⟩ := cb_facts hn hk hh hc
  have hsame : ∀ k' h', nxt n fo fn k h k' h' → h' = h1 := fun k' h' q => ((nI_eq (by omega) (by have := q.2.1; omega)).mp (eh.symm.trans q.2.2.1)).symm
  rw [eh]
  by_cases hx0 : o_next (fo k) = 0
  · rw [if_pos hx0]
    by_cases hj0 : o_jump (fo k) = 0
    · rw [if_pos hj0]
      exact ⟨c, m, g, hI, Nat.le_refl _, fun _ _ => rfl, fun _ _ q => q, fun _ k' h' q => by
        rcases q.2.2.2 with q | q
        · exact absurd hx0 q.1
        · exact absurd hj0 q.1⟩
    · rw [if_neg hj0]
      obtain ⟨k1, hk1, ek⟩ := hj hj0
      rw [ek]
      obtain ⟨c', m', g', a1, a2, a3, a4, a5⟩ := reach_ok hn hI hk1 hh1 (Rch_s hk hh hR hc ⟨hk1, hh1, eh, Or.inr ⟨hj0, ek⟩⟩)
      refine ⟨c', m', g', a1, a2, a3, a4, fun _ k' h' q => ?_⟩
      rw [hsame k' h' q]
      rcases q.2.2.2 with q2 | q2
      · exact absurd hx0 q2.1
      · rw [(nI_eq (by have := q.1; omega) (by omega)).mp (q2.2.symm.trans ek)]
        exact a5
  · rw [if_neg hx0, nI_1]
    have hk2 := hx hx0
    obtain ⟨c1, m1, g1, a1, a2, a3, a4, a5⟩ := reach_ok hn hI hk2 hh1 (Rch_s hk hh hR hc ⟨hk2, hh1, eh, Or.inl ⟨hx0, rfl⟩⟩)
    by_cases hj0 : o_jump (fo k) = 0
    · rw [if_pos hj0]
      refine ⟨c1, m1, g1, a1, a2, a3, a4, fun _ k' h' q => ?_⟩
      rw [hsame k' h' q]
      rcases q.2.2.2 with q2 | q2
      · rw [q2.2]; exact a5
      · exact absurd hj0 q2.1
    · rw [if_neg hj0]
      obtain ⟨k1, hk1, ek⟩ := hj hj0
      rw [ek]
      obtain ⟨c2, m2, g2, b1, b2, b3, b4, b5⟩ := reach_ok hn a1 hk1 hh1 (Rch_s hk hh hR hc ⟨hk1, hh1, eh, Or.inr ⟨hj0, ek⟩⟩)
      refine ⟨c2, m2, g2, b1, by omega, fun j hj => (b3 j (by omega)).trans (a3 j hj), fun a b q => b4 a b (a4 a b q), fun _ k' h' q => ?_⟩
      rw [hsame k' h' q]
      rcases q.2.2.2 with q2 | q2
      · rw [q2.2]; exact b4 _ _ a5
      · rw [(nI_eq (by have := q.1; omega) (by omega)).mp (q2.2.symm.trans ek)]
        exact b5
theorem loop_ok (hn : n ≤ 64) : ∀ (N i c : Nat) (m g : Nat → Nat) (u : WS), WI n (Rch kd ac n fo fn) c m g u → i ≤ c → i + N = 576 →
    (∀ j, j < i → cb kd ac n fo fn (g j / 9) (g j % 9) → ∀ k' h', nxt n fo fn (g j / 9) (g j % 9) k' h' → (m k').testBit h' = true) →
    ∃ (c' : Nat) (m' g' : Nat → Nat), WI n (Rch kd ac n fo fn) c' m' g' (w_loop kd (nI n) ac fo fn N (nI i) u) ∧ (∀ a b, (m a).testBit b = true → (m' a).testBit b = true) ∧
      (∀ j, j < c' → cb kd ac n fo fn (g' j / 9) (g' j % 9) → ∀ k' h', nxt n fo fn (g' j / 9) (g' j % 9) k' h' → (m' k').testBit h' = true)
  | 0, i, c, m, g, u, hI, hic, hiN, hp => by
    have hc : c ≤ 576 := by rw [hI.2.2.2.1]; exact cntB_le m
    exact ⟨c, m, g, hI, fun _ _ q => q, fun j hj => hp j (by omega)⟩
  | N + 1, i, c, m, g, u, hI, hic, hiN, hp => by
    have hc : c ≤ 576 := by rw [hI.2.2.2.1]; exact cntB_le m
    show ∃ (c' : Nat) (m' g' : Nat → Nat), WI n (Rch kd ac n fo fn) c' m' g' (if nI 576 ≤ nI i then u else if u.2.2 ≤ nI i then u else w_loop kd (nI n) ac fo fn N (nI i + 1) (w_goOn kd (nI n) ac fo fn (rd u.2.1 576 (nI i) / 9) (rd u.2.1 576 (nI i) - rd u.2.1 576 (nI i) / 9 * 9) u)) ∧ _
    rw [if_neg (by rw [nI_leI (by omega) (by omega)]; omega), hI.2.2.1]
    by_cases hd : nI c ≤ nI i
    · rw [if_pos hd]
      rw [nI_leI (by omega) (by omega)] at hd
      exact ⟨c, m, g, hI, fun _ _ q => q, fun j hj => hp j (by omega)⟩
    · rw [if_neg hd]
      rw [nI_leI (by omega) (by omega)] at hd
      obtain ⟨q1, q2, q3⟩ := hI.2.1 i (by omega)
      have er : rd u.2.1 576 (nI i) = nI (g i) := by rw [rd_in u.2.1 (by omega) (by omega)]; exact q1
      have e9 : nI (g i) / 9 = nI (g i / 9) := pk_div (d := 9) (by omega) (by omega) (by omega)
      have e8 : nI (g i) - nI (g i) / 9 * 9 = nI (g i % 9) := pk_rem (d := 9) (by omega) (by omega) (by omega)
      rw [er, e8, e9, nI_1]
      obtain ⟨c1, m1, g1, a1, a2, a3, a4, a5⟩ := goOn_ok hn hI (k := g i / 9) (h := g i % 9) (by omega) (by omega) q3
      obtain ⟨c2, m2, g2, b1, b2, b3⟩ := loop_ok hn N (i + 1) c1 m1 g1 _ a1 (by omega) (by omega) (fun j hj hcb k' h' hx => by
        by_cases hji : j = i
        · subst hji
          rw [a3 j (by omega)] at hcb hx
          exact a5 hcb k' h' hx
        · rw [a3 j (by omega)] at hcb hx
          exact a4 _ _ (hp j (by omega) hcb k' h' hx))
      exact ⟨c2, m2, g2, b1, fun a b q => b2 a b (a4 a b q), b3⟩
/-- behind follow: the bits of each row are the heights with which it can be reached -/
theorem follow_ok (hn : n ≤ 64) (h0 : 0 < n) (fw : Nat → Int32) : ∃ m : Nat → Nat, (∀ k, k < 64 → (w_follow kd (nI n) ac fo fn fw).1 k = nI (m k) ∧ m k < 512) ∧ ∀ k h, k < n → h < 9 → ((m k).testBit h = true ↔ Rch kd ac n fo fn k h) := by
  obtain ⟨c, m, g, a1, a2, a3, a4, a5⟩ := reach_ok hn (WI_0 n (Rch kd ac n fo fn) fw) (k := 0) (h := 0) h0 (by omega) Rch_0
  obtain ⟨c1, m1, g1, b1, b2, b3⟩ := loop_ok hn 576 0 c m g _ a1 (by omega) (by omega) (fun j hj => absurd hj (Nat.not_lt_zero j))
  refine ⟨m1, b1.1, fun k h hk hh => ⟨fun q => (b1.2.2.2.2 k h hk hh q).2, fun q => ?_⟩⟩
  have hS := q (fun k h => k < n ∧ h < 9 ∧ (m1 k).testBit h = true) ⟨h0, by omega, b2 _ _ a5⟩ (fun k h k' h' hk hh hs hcb hx => ⟨hx.1, hx.2.1, by
    obtain ⟨⟨j, hj, ej⟩, -⟩ := b1.2.2.2.2 k h hk hh hs.2.2
    have hj9 : g1 j / 9 = k := by omega
    have hj8 : g1 j % 9 = h := by omega
    exact b3 j hj (by rw [hj9, hj8]; exact hcb) k' h' (by rw [hj9, hj8]; exact hx)⟩)
  exact hS.2.2
end
