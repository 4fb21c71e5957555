/-! the reference's sweeps, in numbers -/
def v_rch (fR : Nat → Int32) (k h : Nat) : Nat → Int32 := if fR (9 * k + h) = 0 then upd fR (9 * k + h) 1 else fR
def v_opt (z : Int32) (k h : Nat) (fR : Nat → Int32) : Nat → Int32 := if z = 0 then fR else v_rch fR k h
section
variable (kd ac : Int32) (n : Nat) (fo fn : Nat → Int32)
/-- what goOn(a, b) does to the marks and to what is wrong -/
def GoR (a b : Nat) (fR fW : Nat → Int32) (u : (Nat → Int32) × (Nat → Int32)) : Prop :=
  (p_wf kd (nI n) ac fo fn (nI a) = 0 ∧ u = (fR, fW)) ∨
  (¬ p_wf kd (nI n) ac fo fn (nI a) = 0 ∧ ¬ cb kd ac n fo fn a b ∧ u = (fR, upd fW a 1)) ∨
  (cb kd ac n fo fn a b ∧ ∃ h1 k1 : Nat, h1 < 9 ∧ nI b + o_grow (fo a) = nI h1 ∧ (¬ o_jump (fo a) = 0 → k1 < n ∧ fn a = nI k1) ∧ u = (v_opt (o_jump (fo a)) k1 h1 (v_opt (o_next (fo a)) (a + 1) h1 fR), fW))
/-- WRONG for a reason that isn't two heights -/
def BW (i : Nat) : Prop := p_wf kd (nI n) ac fo fn (nI i) = 0 ∨ ∃ h, h < 9 ∧ Rch kd ac n fo fn i h ∧ ¬ cb kd ac n fo fn i h
def PrE (r : Nat → Nat) (fW : Nat → Int32) (e : Nat) : Prop := (¬ cb kd ac n fo fn (e / 9) (e % 9) → fW (e / 9) = 1) ∧ (cb kd ac n fo fn (e / 9) (e % 9) → ∀ k' h', nxt n fo fn (e / 9) (e % 9) k' h' → ¬ r (9 * k' + h') = 0)
def RI (X : Nat → Prop) (r : Nat → Nat) (fR fW : Nat → Int32) : Prop :=
  (∀ e, e < 576 → fR e = nI (r e) ∧ r e ≤ 2) ∧ (∀ e, e < 9 * n → ¬ r e = 0 → Rch kd ac n fo fn (e / 9) (e % 9)) ∧ (∀ i, i < n → fW i = 0 ∨ fW i = 1) ∧ (∀ i, i < n → fW i = 1 → BW kd ac n fo fn i) ∧
  (∀ i, i < n → p_wf kd (nI n) ac fo fn (nI i) = 0 → fW i = 1) ∧ (∀ e, e < 9 * n → r e = 2 → ¬ X e → PrE kd ac n fo fn r fW e) ∧ (0 < n → ¬ r 0 = 0)
def FillR (fR fW : Nat → Int32) : Prop := (∀ k h, k < n → h < 9 → (¬ fR (9 * k + h) = 0 ↔ Rch kd ac n fo fn k h)) ∧ (∀ i, i < n → fW i = 0 ∨ fW i = 1) ∧ (∀ i, i < n → (fW i = 1 ↔ BW kd ac n fo fn i))
end
def upN (r : Nat → Nat) (k x : Nat) : Nat → Nat := fun j => if j = k then x else r j
def rchN (r : Nat → Nat) (k h : Nat) : Nat → Nat := if r (9 * k + h) = 0 then upN r (9 * k + h) 1 else r
def optN (z : Int32) (k h : Nat) (r : Nat → Nat) : Nat → Nat := if z = 0 then r else rchN r k h
theorem rchN_2 (r : Nat → Nat) (k h e : Nat) : rchN r k h e = 2 ↔ r e = 2 := by
  unfold rchN upN
  by_cases h0 : r (9 * k + h) = 0
  · rw [if_pos h0]
    by_cases he : e = 9 * k + h
    · subst he; simp [h0]
    · simp [he]
  · rw [if_neg h0]
theorem rchN_0 (r : Nat → Nat) (k h e : Nat) (he : ¬ r e = 0) : ¬ rchN r k h e = 0 := by
  unfold rchN upN
  by_cases h0 : r (9 * k + h) = 0
  · rw [if_pos h0]
    by_cases h1 : e = 9 * k + h
    · simp [h1]
    · simp [h1, he]
  · rw [if_neg h0]; exact he
theorem rchN_at (r : Nat → Nat) (k h : Nat) : ¬ rchN r k h (9 * k + h) = 0 := by
  unfold rchN upN
  by_cases h0 : r (9 * k + h) = 0
  · simp [h0]
  · rw [if_neg h0]; exact h0
theorem rchN_new (r : Nat → Nat) (k h e : Nat) (he : ¬ rchN r k h e = 0) : ¬ r e = 0 ∨ e = 9 * k + h := by
  unfold rchN upN at he
  by_cases h0 : r (9 * k + h) = 0
  · rw [if_pos h0] at he
    by_cases h1 : e = 9 * k + h
    · exact Or.inr h1
    · simp [h1] at he; exact Or.inl he
  · rw [if_neg h0] at he; exact Or.inl he
theorem rch_eq {r : Nat → Nat} {fR : Nat → Int32} (hr : ∀ e, e < 576 → fR e = nI (r e) ∧ r e ≤ 2) {k h : Nat} (hk : 9 * k + h < 576) : ∀ e, e < 576 → v_rch fR k h e = nI (rchN r k h e) ∧ rchN r k h e ≤ 2 := by
  intro e he
  unfold v_rch rchN
  have h1 := hr _ hk
  by_cases h0 : r (9 * k + h) = 0
  · rw [if_pos h0, if_pos (by rw [h1.1, h0]; rfl)]
    unfold upd upN
    by_cases h2 : e = 9 * k + h
    · rw [if_pos h2, if_pos h2]; exact ⟨rfl, by omega⟩
    · rw [if_neg h2, if_neg h2]; exact hr e he
  · rw [if_neg h0, if_neg (by rw [h1.1]; exact fun q => h0 ((nI_eq (by omega) (by omega)).mp (q : nI (r (9 * k + h)) = nI 0)))]
    exact hr e he
section
variable {kd ac : Int32} {n : Nat} {fo fn : Nat → Int32}
theorem go_ok (hn : n ≤ 64) {a b : Nat} {r : Nat → Nat} {fR fW : Nat → Int32} {u : (Nat → Int32) × (Nat → Int32)} (ha : a < n) (hb : b < 9) (hR : Rch kd ac n fo fn a b) (hI : RI kd ac n fo fn (fun e => e = 9 * a + b) r fR fW) (hG : GoR kd ac n fo fn a b fR fW u) :
    ∃ r' : Nat → Nat, RI kd ac n fo fn (fun _ => False) r' u.1 u.2 ∧ ∀ e, (r' e = 2 ↔ r e = 2) := by
  obtain ⟨i1, i2, i3, i4, i5, i6, i7⟩ := hI
  have d9 : (9 * a + b) / 9 = a := by omega
  have m9 : (9 * a + b) % 9 = b := by omega
  rcases hG with ⟨g1, rfl⟩ | ⟨g1, g2, rfl⟩ | ⟨g1, h1, k1, hh1, eh, hj, rfl⟩
  · refine ⟨r, ⟨i1, i2, i3, i4, i5, fun e he h2 _ => ?_, i7⟩, fun _ => Iff.rfl⟩
    by_cases hx : e = 9 * a + b
    · subst hx
      refine ⟨fun _ => by rw [d9]; exact i5 a ha g1, fun hc => ?_⟩
      rw [d9, m9] at hc
      exact absurd g1 (cb_facts hn ha hb hc).1
    · exact i6 e he h2 hx
  · refine ⟨r, ⟨i1, i2, fun i hi => ?_, fun i hi h => ?_, fun i hi h => ?_, fun e he h2 _ => ?_, i7⟩, fun _ => Iff.rfl⟩
    · show upd fW a 1 i = 0 ∨ upd fW a 1 i = 1
      unfold upd
      by_cases e : i = a
      · rw [if_pos e]; exact Or.inr rfl
      · rw [if_neg e]; exact i3 i hi
    · by_cases e : i = a
      · subst e; exact Or.inr ⟨b, hb, hR, g2⟩
      · have h' : upd fW a 1 i = 1 := h
        unfold upd at h'
        rw [if_neg e] at h'
        exact i4 i hi h'
    · show upd fW a 1 i = 1
      unfold upd
      by_cases e : i = a
      · rw [if_pos e]
      · rw [if_neg e]; exact i5 i hi h
    · have hw : ∀ i, fW i = 1 → upd fW a 1 i = 1 := fun i h => by
        unfold upd
        by_cases e : i = a
        · rw [if_pos e]
        · rw [if_neg e]; exact h
      by_cases hx : e = 9 * a + b
      · subst hx
        refine ⟨fun _ => by rw [d9]; show upd fW a 1 a = 1; unfold upd; rw [if_pos rfl], fun hc => ?_⟩
        rw [d9, m9] at hc
        exact absurd hc g2
      · have h6 := i6 e he h2 hx
        exact ⟨fun q => hw _ (h6.1 q), h6.2⟩
  · obtain ⟨-, -, hx, -⟩ := cb_facts hn ha hb g1
    have key : ∀ (z : Int32) (k : Nat) (q : Nat → Nat) (f : Nat → Int32), (¬ z = 0 → k < n ∧ Rch kd ac n fo fn k h1) → (∀ e, e < 576 → f e = nI (q e) ∧ q e ≤ 2) → (∀ e, e < 9 * n → ¬ q e = 0 → Rch kd ac n fo fn (e / 9) (e % 9)) →
        (∀ e, e < 576 → v_opt z k h1 f e = nI (optN z k h1 q e) ∧ optN z k h1 q e ≤ 2) ∧ (∀ e, e < 9 * n → ¬ optN z k h1 q e = 0 → Rch kd ac n fo fn (e / 9) (e % 9)) ∧ (∀ e, optN z k h1 q e = 2 ↔ q e = 2) ∧ (∀ e, ¬ q e = 0 → ¬ optN z k h1 q e = 0) ∧ (¬ z = 0 → ¬ optN z k h1 q (9 * k + h1) = 0) := by
      intro z k q f hz q1 q2
      unfold v_opt optN
      by_cases z0 : z = 0
      · rw [if_pos z0, if_pos z0]
        exact ⟨q1, q2, fun _ => Iff.rfl, fun _ h => h, fun h => absurd z0 h⟩
      · rw [if_neg z0, if_neg z0]
        obtain ⟨hk, hr⟩ := hz z0
        refine ⟨rch_eq q1 (by omega), fun e he h => ?_, rchN_2 q k h1, rchN_0 q k h1, fun _ => rchN_at q k h1⟩
        rcases rchN_new q k h1 e h with h | h
        · exact q2 e he h
        · rw [h, show (9 * k + h1) / 9 = k by omega, show (9 * k + h1) % 9 = h1 by omega]
          exact hr
    have hN : ¬ o_next (fo a) = 0 → a + 1 < n ∧ Rch kd ac n fo fn (a + 1) h1 := fun z => ⟨hx z, Rch_s ha hb hR g1 ⟨hx z, hh1, eh, Or.inl ⟨z, rfl⟩⟩⟩
    have hJ : ¬ o_jump (fo a) = 0 → k1 < n ∧ Rch kd ac n fo fn k1 h1 := fun z => ⟨(hj z).1, Rch_s ha hb hR g1 ⟨(hj z).1, hh1, eh, Or.inr ⟨z, (hj z).2⟩⟩⟩
    obtain ⟨a1, a2, a3, a4, a5⟩ := key (o_next (fo a)) (a + 1) r fR hN i1 i2
    obtain ⟨b1, b2, b3, b4, b5⟩ := key (o_jump (fo a)) k1 _ _ hJ a1 a2
    refine ⟨_, ⟨b1, b2, i3, i4, i5, fun e he h2 _ => ?_, fun h => b4 _ (a4 _ (i7 h))⟩, fun e => (b3 e).trans (a3 e)⟩
    have h2' : r e = 2 := (a3 e).mp ((b3 e).mp h2)
    by_cases hxe : e = 9 * a + b
    · subst hxe
      rw [show PrE kd ac n fo fn _ _ _ ↔ _ from Iff.rfl]
      refine ⟨fun hc => ?_, fun _ k' h' hx' => ?_⟩
      · rw [d9, m9] at hc; exact absurd g1 hc
      · rw [d9, m9] at hx'
        have hh : h' = h1 := ((nI_eq (by omega) (by have := hx'.2.1; omega)).mp (eh.symm.trans hx'.2.2.1)).symm
        subst hh
        rcases hx'.2.2.2 with q | q
        · rw [q.2]; exact b4 _ (a5 q.1)
        · have hk : k' = k1 := (nI_eq (by have := hx'.1; omega) (by have := (hj q.1).1; omega)).mp (q.2.symm.trans (hj q.1).2)
          subst hk
          exact b5 q.1
    · have h6 := i6 e he h2' hxe
      exact ⟨h6.1, fun hc k' h' hx' => b4 _ (a4 _ (h6.2 hc k' h' hx'))⟩
theorem fill_ok (h0 : 0 < n) {r : Nat → Nat} {fR fW : Nat → Int32} (hn : n ≤ 64) (hI : RI kd ac n fo fn (fun _ => False) r fR fW) (h1 : ∀ e, e < 9 * n → ¬ r e = 1) : FillR kd ac n fo fn fR fW := by
  obtain ⟨i1, i2, i3, i4, i5, i6, i7⟩ := hI
  have hz : ∀ k h, k < n → h < 9 → (¬ fR (9 * k + h) = 0 ↔ ¬ r (9 * k + h) = 0) := fun k h hk hh => by
    rw [(i1 (9 * k + h) (by omega)).1]
    have h2 := (i1 (9 * k + h) (by omega)).2
    exact ⟨fun q z => q (by rw [z]; rfl), fun q z => q ((nI_eq (by omega) (by omega)).mp (z : nI (r (9 * k + h)) = nI 0))⟩
  have hall : ∀ e, e < 9 * n → ¬ r e = 0 → PrE kd ac n fo fn r fW e := fun e he h => i6 e he (by
    have h2 := (i1 e (by omega)).2
    have h3 := h1 e he
    omega) (fun q => q)
  have hrch : ∀ k h, k < n → h < 9 → (¬ r (9 * k + h) = 0 ↔ Rch kd ac n fo fn k h) := fun k h hk hh => by
    refine ⟨fun q => ?_, fun q => ?_⟩
    · have h3 := i2 (9 * k + h) (by omega) q
      rwa [show (9 * k + h) / 9 = k by omega, show (9 * k + h) % 9 = h by omega] at h3
    · have hS := q (fun k h => k < n ∧ h < 9 ∧ ¬ r (9 * k + h) = 0) ⟨h0, by omega, i7 h0⟩ (fun k h k' h' hk hh hs hcb hx => ⟨hx.1, hx.2.1, by
        have h4 := (hall (9 * k + h) (by omega) hs.2.2).2
        rw [show (9 * k + h) / 9 = k by omega, show (9 * k + h) % 9 = h by omega] at h4
        exact h4 hcb k' h' hx⟩)
      exact hS.2.2
  refine ⟨fun k h hk hh => (hz k h hk hh).trans (hrch k h hk hh), i3, fun i hi => ⟨i4 i hi, fun hb => ?_⟩⟩
  rcases hb with hb | ⟨h, hh, hr, hc⟩
  · exact i5 i hi hb
  · have h4 := (hall (9 * i + h) (by omega) ((hrch i h hi hh).mpr hr)).1
    rw [show (9 * i + h) / 9 = i by omega, show (9 * i + h) % 9 = h by omega] at h4
    exact h4 hc
end
def cnt2 (r : Nat → Nat) : Nat := (List.range 576).countP (fun e => decide (r e = 2))
theorem cnt2_le (r : Nat → Nat) : cnt2 r ≤ 576 := by
  have h := List.countP_le_length (p := fun e => decide (r e = 2)) (l := List.range 576)
  rwa [List.length_range] at h
theorem cnt2_up {r : Nat → Nat} {k : Nat} (hk : k < 576) (h : ¬ r k = 2) : cnt2 (upN r k 2) = cnt2 r + 1 := by
  unfold cnt2
  have e := cnt_add (fun e => decide (r e = 2)) (fun e => decide (upN r k 2 e = 2)) k (by simp [h]) (fun e => by
    unfold upN
    by_cases q : e = k
    · simp [q]
    · simp [q]) 576
  rw [e, if_pos hk]
theorem cnt2_congr {r r' : Nat → Nat} (h : ∀ e, r' e = 2 ↔ r e = 2) : cnt2 r' = cnt2 r := by
  unfold cnt2
  congr 1
  funext e
  exact decide_eq_decide.mpr (h e)
