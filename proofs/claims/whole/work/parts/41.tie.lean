/-! the class's answers against what is said of them in numbers -/
theorem bitc_le : ∀ m, m < 512 → (bitc (nI m) ≤ 1 ↔ (List.range 9).countP (fun h => m.testBit h) ≤ 1) := by decide +kernel
section
variable {kd ac : Int32} {n : Nat} {fo fn fr : Nat → Int32} {m : Nat → Nat}
theorem isR_bit (hm : ∀ k, k < 64 → fr k = nI (m k) ∧ m k < 512) {k h : Nat} (hk : k < 64) (hh : h < 9) : w_isR fr (nI k) (nI h) = 0 ↔ ¬ (m k).testBit h = true := by
  unfold w_isR
  rw [rd_in fr hk (by omega), (hm k hk).1]
  by_cases q : (nI (m k) >>> (nI h &&& 31)) &&& 1 = 0
  · rw [if_pos q]
    rw [bt_get (m k) (hm k hk).2 h hh] at q
    rw [q]
    simp
  · rw [if_neg q]
    rw [bt_get (m k) (hm k hk).2 h hh] at q
    refine ⟨fun z => absurd z (by decide), fun z => absurd (by simpa using z) q⟩
theorem wrongL_ok (hn : n ≤ 64) (hm : ∀ k, k < 64 → fr k = nI (m k) ∧ m k < 512) {k : Nat} (hk : k < n) : ∀ N j, j + N = 9 → (w_wrongL kd (nI n) ac fo fn fr (nI k) N (nI j) = 0 ↔ ∀ h, j ≤ h → h < 9 → (m k).testBit h = true → cb kd ac n fo fn k h)
  | 0, j, e => ⟨fun _ h h1 h2 => absurd h2 (by omega), fun _ => rfl⟩
  | N + 1, j, e => by
    have ih := wrongL_ok hn hm hk N (j + 1) (by omega)
    show (if (9 : Int32) ≤ nI j then 0 else if w_isR fr (nI k) (nI j) = 0 then w_wrongL kd (nI n) ac fo fn fr (nI k) N (nI j + 1) else if p_cbd kd (nI n) ac fo fn (nI k) (nI j) = 0 then 1 else w_wrongL kd (nI n) ac fo fn fr (nI k) N (nI j + 1)) = 0 ↔ _
    rw [if_neg (show ¬ (9 : Int32) ≤ nI j from nI_ge (b := 9) (by omega) (by omega)), nI_1]
    by_cases q : w_isR fr (nI k) (nI j) = 0
    · rw [if_pos q, ih]
      rw [isR_bit hm (by omega) (by omega)] at q
      refine ⟨fun z h h1 h2 h3 => ?_, fun z h h1 h2 h3 => z h (by omega) h2 h3⟩
      by_cases w : h = j
      · subst w; exact absurd h3 q
      · exact z h (by omega) h2 h3
    · rw [if_neg q]
      rw [isR_bit hm (by omega) (by omega)] at q
      have q := Classical.not_not.mp q
      by_cases c : p_cbd kd (nI n) ac fo fn (nI k) (nI j) = 0
      · rw [if_pos c]
        exact ⟨fun z => absurd z (by decide), fun z => absurd c (z j (by omega) (by omega) q)⟩
      · rw [if_neg c, ih]
        refine ⟨fun z h h1 h2 h3 => ?_, fun z h h1 h2 h3 => z h (by omega) h2 h3⟩
        by_cases w : h = j
        · subst w; exact c
        · exact z h (by omega) h2 h3
theorem wrong_ok (hn : n ≤ 64) (hm : ∀ k, k < 64 → fr k = nI (m k) ∧ m k < 512) (hb : ∀ k h, k < n → h < 9 → ((m k).testBit h = true ↔ Rch kd ac n fo fn k h)) {k : Nat} (hk : k < n) : w_wrong kd (nI n) ac fo fn fr (nI k) = 0 ↔ ¬ Bad kd ac n fo fn k := by
  unfold w_wrong
  by_cases q : p_wf kd (nI n) ac fo fn (nI k) = 0
  · rw [if_pos q]
    exact ⟨fun z => absurd z (by decide), fun z => absurd (Or.inl (Or.inl q)) z⟩
  rw [if_neg q, rd_in fr (by omega) (by omega), (hm k (by omega)).1]
  have h2 := bitc_le (m k) (hm k (by omega)).2
  rw [two_le] at h2
  by_cases c : bitc (nI (m k)) ≤ 1
  · rw [if_pos c]
    have h3 := h2.mp c
    rw [show (0 : Int32) = nI 0 from rfl]
    rw [show (w_wrongL kd (nI n) ac fo fn fr (nI k) 9 (nI 0) = nI 0) ↔ (w_wrongL kd (nI n) ac fo fn fr (nI k) 9 (nI 0) = 0) from Iff.rfl, wrongL_ok hn hm hk 9 0 rfl]
    constructor
    · rintro z ((w | ⟨h, hh, hr, hc⟩) | ⟨x, y, hx, hy, ne, px, py⟩)
      · exact q w
      · exact hc (z h (by omega) hh ((hb k h hk hh).mpr hr))
      · exact ne (h3 x y hx hy ((hb k x hk hx).mpr px) ((hb k y hk hy).mpr py))
    · intro z h _ hh hbit
      exact Classical.byContradiction (fun w => z (Or.inl (Or.inr ⟨h, hh, (hb k h hk hh).mp hbit, w⟩)))
  · rw [if_neg c]
    refine ⟨fun z => absurd z (by decide), fun z => absurd (h2.mpr (fun x y hx hy px py => ?_)) c⟩
    exact Classical.byContradiction (fun w => z (Or.inr ⟨x, y, hx, hy, w, (hb k x hk hx).mp px, (hb k y hk hy).mp py⟩))
theorem first_ok (hn : n ≤ 64) (hm : ∀ k, k < 64 → fr k = nI (m k) ∧ m k < 512) (hb : ∀ k h, k < n → h < 9 → ((m k).testBit h = true ↔ Rch kd ac n fo fn k h)) : ∀ N k, k + N = n → (∀ i, i < k → ¬ Bad kd ac n fo fn i) → ChkR kd ac n fo fn (w_first kd (nI n) ac fo fn fr N (nI k))
  | 0, k, e, h => Or.inl ⟨rfl, fun i hi => h i (by omega)⟩
  | N + 1, k, e, h => by
    show ChkR kd ac n fo fn (if nI n ≤ nI k then -2 else if w_wrong kd (nI n) ac fo fn fr (nI k) = 0 then w_first kd (nI n) ac fo fn fr N (nI k + 1) else nI k)
    rw [if_neg (nI_ge (by omega) (by omega)), nI_1]
    by_cases q : w_wrong kd (nI n) ac fo fn fr (nI k) = 0
    · rw [if_pos q]
      rw [wrong_ok hn hm hb (by omega)] at q
      exact first_ok hn hm hb N (k + 1) (by omega) (fun i hi => by
        by_cases w : i = k
        · subst w; exact q
        · exact h i (by omega))
    · rw [if_neg q]
      rw [wrong_ok hn hm hb (by omega)] at q
      exact Or.inr ⟨k, by omega, rfl, Classical.not_not.mp q, h⟩
end
section
variable {kd ac : Int32} {n : Nat} {fo fn : Nat → Int32}
theorem chk_ok (hn : n ≤ 64) (u : WS) : (n = 0 ∧ j_chk kd ac n fo fn u = 64) ∨ (0 < n ∧ ChkR kd ac n fo fn (j_chk kd ac n fo fn u)) := by
  unfold j_chk
  by_cases q : n = 0
  · subst q; exact Or.inl ⟨rfl, if_pos rfl⟩
  · rw [if_neg (show ¬ nI n = 0 from nI_ne0 (by omega) (by omega))]
    obtain ⟨m, hm, hb⟩ := follow_ok (kd := kd) (ac := ac) (fo := fo) (fn := fn) hn (by omega) u.2.1
    exact Or.inr ⟨by omega, first_ok hn hm hb n 0 (Nat.zero_add n) (fun i h => absurd h (Nat.not_lt_zero i))⟩
theorem chk_uniq (hn : n ≤ 64) {r s : Int32} (h1 : (n = 0 ∧ r = 64) ∨ (0 < n ∧ ChkR kd ac n fo fn r)) (h2 : (n = 0 ∧ s = 64) ∨ (0 < n ∧ ChkR kd ac n fo fn s)) : r = s := by
  rcases h1 with ⟨a, b⟩ | ⟨a, b⟩ <;> rcases h2 with ⟨c, d⟩ | ⟨c, d⟩
  · rw [b, d]
  · omega
  · omega
  · exact ChkR_uniq hn b d
theorem hgt_ok (hn : n ≤ 64) (k : Int32) (u : WS) : (p_has (nI n) k = 0 ∧ (j_hgt kd ac n fo fn k u).1 = -1) ∨ ∃ a1, a1 < n ∧ k = nI a1 ∧ HgtR kd ac n fo fn a1 (j_hgt kd ac n fo fn k u).1 := by
  unfold j_hgt
  by_cases q : p_has (nI n) k = 0
  · exact Or.inl ⟨q, by rw [if_pos q]⟩
  · rw [if_neg q]
    have q2 := q
    unfold p_has at q2
    by_cases h1 : k < 0
    · rw [if_pos h1] at q2; exact absurd rfl q2
    rw [if_neg h1] at q2
    by_cases h2 : nI n ≤ k
    · rw [if_pos h2] at q2; exact absurd rfl q2
    obtain ⟨j, hj, rfl⟩ := nI_of h1
    rw [nI_leI (by omega) hj] at h2
    obtain ⟨m, hm, hb⟩ := follow_ok (kd := kd) (ac := ac) (fo := fo) (fn := fn) hn (by omega) u.2.1
    refine Or.inr ⟨j, by omega, rfl, m j, (hm j (by omega)).2, ?_, fun h hh => hb j h (by omega) hh⟩
    show rd (w_follow kd (nI n) ac fo fn u.2.1).1 64 (nI j) = nI (m j)
    rw [rd_in _ (by omega) (by omega)]
    exact (hm j (by omega)).1
theorem hgt_uniq {k r s : Int32} (hn : n ≤ 64) (h1 : (p_has (nI n) k = 0 ∧ r = -1) ∨ ∃ a1, a1 < n ∧ k = nI a1 ∧ HgtR kd ac n fo fn a1 r) (h2 : (p_has (nI n) k = 0 ∧ s = -1) ∨ ∃ a1, a1 < n ∧ k = nI a1 ∧ HgtR kd ac n fo fn a1 s) : r = s := by
  have no : ∀ a1, a1 < n → ¬ p_has (nI n) (nI a1) = 0 := fun a1 h => by rw [has_in hn h]; decide
  rcases h1 with ⟨a, b⟩ | ⟨x, hx, ex, b⟩ <;> rcases h2 with ⟨c, d⟩ | ⟨y, hy, ey, d⟩
  · rw [b, d]
  · subst ey; exact absurd a (no y hy)
  · subst ex; exact absurd c (no x hx)
  · subst ex
    have e : x = y := (nI_eq (by omega) (by omega)).mp ey
    subst e
    exact HgtR_uniq b d
end
theorem move_pcn (op n : Int32) (S : MS) : (m_move op n S).2.2.1 = S.2.2.1 := by
  obtain ⟨res, stp, pcn, fk, fv, fa, fl, fs, ht, ap⟩ := S
  simp only [m_move]
  (repeat' split) <;> rfl
theorem one_pcn (op n kd : Int32) (S : MS) (h : ∃ p, p ≤ 20 ∧ S.2.2.1 = nI p) : ∃ p, p ≤ 20 ∧ (m_one op n kd S).2.2.2.1 = nI p := by
  obtain ⟨res, stp, pcn, fk, fv, fa, fl, fs, ht, ap⟩ := S
  obtain ⟨p, hp, e⟩ := h
  have e : pcn = nI p := e
  subst e
  simp only [m_one]
  by_cases h14 : op = 14
  · rw [if_pos h14]; exact ⟨p, hp, rfl⟩
  rw [if_neg h14]
  by_cases h15 : op = 15
  · rw [if_pos h15]
    by_cases q : rd fs 8 (ht - 1) = 0
    · rw [if_pos q]; exact ⟨p, hp, rfl⟩
    · rw [if_neg q]; exact ⟨p, hp, rfl⟩
  rw [if_neg h15]
  by_cases h16 : op = 16
  · rw [if_pos h16]
    simp only [m_emit]
    by_cases q : nI p < 20
    · rw [if_pos q]
      have q2 : p < 20 := (nI_ltI (by omega) (by omega)).mp (show nI p < nI 20 from q)
      exact ⟨p + 1, by omega, nI_1 p⟩
    · rw [if_neg q]; exact ⟨p, hp, rfl⟩
  rw [if_neg h16]
  by_cases h17 : op = 17
  · rw [if_pos h17]
    by_cases q : kd = 0
    · rw [if_pos q]; exact ⟨p, hp, rfl⟩
    · rw [if_neg q]; exact ⟨p, hp, rfl⟩
  rw [if_neg h17]
  by_cases h18 : op = 18
  · rw [if_pos h18]; exact ⟨p, hp, rfl⟩
  rw [if_neg h18]
  exact ⟨p, hp, move_pcn op n _⟩
theorem loop_pcn (kd : Int32) (fo fn : Nat → Int32) : ∀ (N : Nat) (o : Int32) (S : MS), (∃ p, p ≤ 20 ∧ S.2.2.1 = nI p) → ∃ p, p ≤ 20 ∧ (m_loop kd fo fn N o S).2.2.2.1 = nI p
  | 0, o, S, h => h
  | N + 1, o, S, h => by
    show ∃ p, p ≤ 20 ∧ (if o = 3 then m_loop kd fo fn N (m_one (rd fo 64 (m_ap S)) (rd fn 64 (m_ap S)) kd (m_tick S)).1 (m_one (rd fo 64 (m_ap S)) (rd fn 64 (m_ap S)) kd (m_tick S)).2 else (o, S)).2.2.2.1 = nI p
    by_cases q : o = 3
    · rw [if_pos q]
      exact loop_pcn kd fo fn N _ _ (one_pcn _ _ kd (m_tick S) h)
    · rw [if_neg q]; exact h
theorem run_pcn (kd : Int32) (fo fn : Nat → Int32) (x y z : Int32) (S : MS) : ∃ p, p ≤ 20 ∧ (m_run kd fo fn x y z S).2.2.2.1 = nI p := by
  have h := loop_pcn kd fo fn 300 3 (m_begin x y z S) ⟨0, by omega, rfl⟩
  unfold m_run
  generalize m_loop kd fo fn 300 3 (m_begin x y z S) = X at h ⊢
  obtain ⟨o, S2⟩ := X
  unfold m_fin
  by_cases q : o = 3
  · rw [if_pos (show (o, S2).1 = 3 from q)]; exact ⟨0, by omega, rfl⟩
  rw [if_neg (show ¬ (o, S2).1 = 3 from q)]
  by_cases q2 : o = 2
  · rw [if_pos (show (o, S2).1 = 2 from q2)]; exact ⟨0, by omega, rfl⟩
  rw [if_neg (show ¬ (o, S2).1 = 2 from q2)]
  exact h
theorem app_lt {op nn : Int32} {fo fn : Nat → Int32} {n : Nat} (h : n < 64) : p_app op nn (fo, fn, nI n) = (1, (upd fo n op, upd fn n nn, nI (n + 1))) := by
  show (if nI n < 64 then (1, (wr fo 64 (nI n) op, wr fn 64 (nI n) nn, nI n + 1)) else (0, (fo, fn, nI n))) = _
  rw [if_pos (show nI n < (64 : Int32) from nI_lt (b := 64) h (by omega)), wr_in fo h (by omega), wr_in fn h (by omega), nI_1]
theorem app_64 {op nn : Int32} {fo fn : Nat → Int32} : p_app op nn (fo, fn, nI 64) = (0, (fo, fn, nI 64)) := rfl
def faOf (fa : Nat → Int32) (x y z : Int32) : Nat → Int32 := wr (wr (wr fa 3 0 x) 3 1 y) 3 2 z
theorem faOf_ok (fa : Nat → Int32) (x y z : Int32) : faOf fa x y z 0 = x ∧ faOf fa x y z 1 = y ∧ faOf fa x y z 2 = z := by
  unfold faOf
  rw [show (0 : Int32) = nI 0 from rfl, show (1 : Int32) = nI 1 from rfl, show (2 : Int32) = nI 2 from rfl, wr_in fa (by omega) (by omega), wr_in _ (by omega) (by omega), wr_in _ (by omega) (by omega)]
  exact ⟨rfl, rfl, rfl⟩
theorem and3 (k : Int32) : k &&& 3 = 0 ∨ k &&& 3 = 1 ∨ k &&& 3 = 2 ∨ k &&& 3 = 3 := by
  obtain ⟨j, hj, e⟩ := pk_andE k (m := 3) 2 (by decide)
  rw [e]
  rcases (by omega : j = 0 ∨ j = 1 ∨ j = 2 ∨ j = 3) with rfl | rfl | rfl | rfl
  · exact Or.inl rfl
  · exact Or.inr (Or.inl rfl)
  · exact Or.inr (Or.inr (Or.inl rfl))
  · exact Or.inr (Or.inr (Or.inr rfl))
theorem law_in {L j : Nat} (hL : L ≤ 2049) (hj : j ≤ 4000) (h : ¬ nI L - 4 < nI j) : j + 4 ≤ L := by
  rw [Int32.lt_iff_toInt_lt, show (nI L - 4 : Int32) = nI L - nI 4 from rfl, pk_sub_toInt (by omega) (by omega), nI_toInt (by omega)] at h
  omega
theorem drop_0 {n : Nat} (h : n = 0) : (if nI n = 0 then ((-2 : Int32), nI n) else (nI n - 1, nI n - 1)) = (-2, nI n) := by
  subst h; rfl
theorem drop_s (n : Nat) (h : n + 1 ≤ 64) : (if nI (n + 1) = 0 then ((-2 : Int32), nI (n + 1)) else (nI (n + 1) - 1, nI (n + 1) - 1)) = (nI n, nI n) := by
  rw [if_neg (nI_ne0 (by omega) (by omega)), nI_pred]
theorem run_eq {kd : Int32} {fo fn : Nat → Int32} {x y z res stp pcn hgt ap : Int32} {fk fv fa fl fs : Nat → Int32} : m_run kd fo fn x y z (res, stp, pcn, fk, fv, fa, fl, fs, hgt, ap) = m_fin (m_loop kd fo fn 300 3 (0, 0, 0, fk, fv, faOf fa x y z, fun _ => 0, fs, 0, 0)) := rfl
theorem lg_same (x : Int64) : lg_cmp x x = 0 := by
  unfold lg_cmp
  simp
def q_cell (xs : Nat → Int32) (L : Nat) : Int32 := if nI L ≤ 0 then 0 else xs (0 : Int32).toNatClampNeg
