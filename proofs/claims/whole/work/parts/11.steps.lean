/-! one step of the machine, in numbers -/
theorem nI_p1 (t : Nat) : nI (t + 1) - 1 = nI t := nI_pred t
theorem nI_p2 (t : Nat) : nI (t + 2) - 1 = nI (t + 1) := nI_pred (t + 1)
section
variable {res stp pcn ap kd n : Int32} {fk fv fa fl fs : Nat → Int32} {t j : Nat}
theorem one_0 (ht : t < 8) : m_one 0 n kd (res, stp, pcn, fk, fv, fa, fl, fs, nI t, ap) = (3, (res, stp, pcn, fk, fv, fa, fl, upd fs t n, nI (t + 1), ap + 1)) := by
  show (3, (res, stp, pcn, fk, fv, fa, fl, wr fs 8 (nI t) n, nI t + 1, ap + 1)) = _
  rw [wr_in fs ht (by omega), nI_1]
theorem one_1 (ht : t < 8) (hj : j < 3) : m_one 1 (nI j) kd (res, stp, pcn, fk, fv, fa, fl, fs, nI t, ap) = (3, (res, stp, pcn, fk, fv, fa, fl, upd fs t (fa j), nI (t + 1), ap + 1)) := by
  show (3, (res, stp, pcn, fk, fv, fa, fl, wr fs 8 (nI t) (rd fa 3 (nI j)), nI t + 1, ap + 1)) = _
  rw [wr_in fs ht (by omega), nI_1, rd_in fa hj (by omega)]
theorem one_2 (ht : t < 8) (hj : j < 4) : m_one 2 (nI j) kd (res, stp, pcn, fk, fv, fa, fl, fs, nI t, ap) = (3, (res, stp, pcn, fk, fv, fa, fl, upd fs t (fl j), nI (t + 1), ap + 1)) := by
  show (3, (res, stp, pcn, fk, fv, fa, fl, wr fs 8 (nI t) (rd fl 4 (nI j)), nI t + 1, ap + 1)) = _
  rw [wr_in fs ht (by omega), nI_1, rd_in fl hj (by omega)]
theorem one_3 (ht : t < 8) (hj : j < 4) : m_one 3 (nI j) kd (res, stp, pcn, fk, fv, fa, fl, fs, nI (t + 1), ap) = (3, (res, stp, pcn, fk, fv, fa, upd fl j (fs t), fs, nI t, ap + 1)) := by
  show (3, (res, stp, pcn, fk, fv, fa, wr fl 4 (nI j) (rd fs 8 (nI (t + 1) - 1)), fs, nI (t + 1) - 1, ap + 1)) = _
  rw [nI_p1, rd_in fs ht (by omega), wr_in fl hj (by omega)]
theorem upd_self (f : Nat → Int32) (k : Nat) : upd f k (f k) = f := by
  funext i
  unfold upd
  by_cases h : i = k
  · rw [if_pos h, h]
  · rw [if_neg h]
theorem upd_comm (f : Nat → Int32) {a b : Nat} (h : a ≠ b) (x y : Int32) : upd (upd f a x) b y = upd (upd f b y) a x := by
  funext i
  unfold upd
  by_cases h1 : i = a
  · by_cases h2 : i = b
    · omega
    · rw [if_neg h2, if_pos h1, if_pos h1]
  · by_cases h2 : i = b
    · rw [if_pos h2, if_neg h1, if_pos h2]
    · rw [if_neg h2, if_neg h1, if_neg h1, if_neg h2]
theorem one_4 (ht : t + 1 < 8) : m_one 4 n kd (res, stp, pcn, fk, fv, fa, fl, fs, nI (t + 1), ap) = (3, (res, stp, pcn, fk, fv, fa, fl, upd fs (t + 1) (fs t), nI (t + 2), ap + 1)) := by
  show (3, (res, stp, pcn, fk, fv, fa, fl, wr (wr fs 8 (nI (t + 1) - 1) (rd fs 8 (nI (t + 1) - 1))) 8 (nI (t + 1) - 1 + 1) (rd fs 8 (nI (t + 1) - 1)), nI (t + 1) - 1 + 1 + 1, ap + 1)) = _
  rw [nI_p1, rd_in fs (by omega) (by omega), nI_1, wr_in fs (by omega) (by omega), upd_self, wr_in fs ht (by omega), nI_1]
theorem one_5 (ht : t + 1 < 8) : m_one 5 n kd (res, stp, pcn, fk, fv, fa, fl, fs, nI (t + 2), ap) = (3, (res, stp, pcn, fk, fv, fa, fl, upd (upd fs (t + 1) (fs t)) t (fs (t + 1)), nI (t + 2), ap + 1)) := by
  show (3, (res, stp, pcn, fk, fv, fa, fl, wr (wr fs 8 (nI (t + 2) - 1 - 1) (rd fs 8 (nI (t + 2) - 1))) 8 (nI (t + 2) - 1 - 1 + 1) (rd fs 8 (nI (t + 2) - 1 - 1)), nI (t + 2) - 1 - 1 + 1 + 1, ap + 1)) = _
  rw [nI_p2, nI_p1, rd_in fs ht (by omega), rd_in fs (j := t) (by omega) (by omega), nI_1, wr_in fs (j := t) (by omega) (by omega), wr_in _ ht (by omega), nI_1, upd_comm fs (by omega)]
theorem one_6 : m_one 6 n kd (res, stp, pcn, fk, fv, fa, fl, fs, nI (t + 1), ap) = (3, (res, stp, pcn, fk, fv, fa, fl, fs, nI t, ap + 1)) := by
  show (3, (res, stp, pcn, fk, fv, fa, fl, fs, nI (t + 1) - 1, ap + 1)) = _
  rw [nI_p1]
theorem one_c (ht : t + 1 < 8) {o : Nat} (h7 : 7 ≤ o) (h13 : o ≤ 13) : m_one (nI o) n kd (res, stp, pcn, fk, fv, fa, fl, fs, nI (t + 2), ap) = (3, (res, stp, pcn, fk, fv, fa, fl, upd fs t (m_comb (nI o) (fs t) (fs (t + 1))), nI (t + 1), ap + 1)) := by
  have e : m_one (nI o) n kd (res, stp, pcn, fk, fv, fa, fl, fs, nI (t + 2), ap) = (3, (res, stp, pcn, fk, fv, fa, fl, wr fs 8 (nI (t + 2) - 1 - 1) (m_comb (nI o) (rd fs 8 (nI (t + 2) - 1 - 1)) (rd fs 8 (nI (t + 2) - 1))), nI (t + 2) - 1 - 1 + 1, ap + 1)) := by
    rcases (by omega : o = 7 ∨ o = 8 ∨ o = 9 ∨ o = 10 ∨ o = 11 ∨ o = 12 ∨ o = 13) with rfl | rfl | rfl | rfl | rfl | rfl | rfl <;> rfl
  rw [e, nI_p2, nI_p1, rd_in fs ht (by omega), rd_in fs (j := t) (by omega) (by omega), wr_in fs (j := t) (by omega) (by omega), nI_1]
theorem one_14 : m_one 14 n kd (res, stp, pcn, fk, fv, fa, fl, fs, nI t, ap) = (3, (res, stp, pcn, fk, fv, fa, fl, fs, nI t, n)) := rfl
theorem one_15 (ht : t < 8) : m_one 15 n kd (res, stp, pcn, fk, fv, fa, fl, fs, nI (t + 1), ap) = (3, (res, stp, pcn, fk, fv, fa, fl, fs, nI t, if fs t = 0 then n else ap + 1)) := by
  show (if rd fs 8 (nI (t + 1) - 1) = 0 then (3, (res, stp, pcn, fk, fv, fa, fl, fs, nI (t + 1) - 1, n)) else (3, (res, stp, pcn, fk, fv, fa, fl, fs, nI (t + 1) - 1, ap + 1))) = _
  rw [nI_p1, rd_in fs ht (by omega)]
  by_cases h : fs t = 0
  · rw [if_pos h, if_pos h]
  · rw [if_neg h, if_neg h]
theorem one_16 (ht : t + 1 < 8) {p : Nat} (hp : p < 20) : m_one 16 n kd (res, stp, nI p, fk, fv, fa, fl, fs, nI (t + 2), ap) = (3, (res, stp, nI (p + 1), upd fk p (fs t), upd fv p (fs (t + 1)), fa, fl, fs, nI t, ap + 1)) := by
  show (if nI p < 20 then (3, (res, stp, nI p + 1, wr fk 20 (nI p) (rd fs 8 (nI (t + 2) - 1 - 1)), wr fv 20 (nI p) (rd fs 8 (nI (t + 2) - 1)), fa, fl, fs, nI (t + 2) - 1 - 1, ap + 1)) else (2, (res, stp, nI p, fk, fv, fa, fl, fs, nI (t + 2), ap + 1))) = _
  rw [if_pos (show nI p < (20 : Int32) from nI_lt (b := 20) hp (by omega)), nI_p2, nI_p1, rd_in fs ht (by omega), rd_in fs (j := t) (by omega) (by omega), wr_in fk hp (by omega), wr_in fv hp (by omega), nI_1]
theorem one_16f : m_one 16 n kd (res, stp, nI 20, fk, fv, fa, fl, fs, nI t, ap) = (2, (res, stp, nI 20, fk, fv, fa, fl, fs, nI t, ap + 1)) := rfl
theorem one_17z : m_one 17 n 0 (res, stp, pcn, fk, fv, fa, fl, fs, nI t, ap) = (0, (0, stp, pcn, fk, fv, fa, fl, fs, nI t, ap + 1)) := rfl
theorem one_17 (hk : ¬ kd = 0) (ht : t < 8) : m_one 17 n kd (res, stp, pcn, fk, fv, fa, fl, fs, nI (t + 1), ap) = (0, (fs t, stp, pcn, fk, fv, fa, fl, fs, nI t, ap + 1)) := by
  show (if kd = 0 then (0, (0, stp, pcn, fk, fv, fa, fl, fs, nI (t + 1), ap + 1)) else (0, (rd fs 8 (nI (t + 1) - 1), stp, pcn, fk, fv, fa, fl, fs, nI (t + 1) - 1, ap + 1))) = _
  rw [if_neg hk, nI_p1, rd_in fs ht (by omega)]
theorem one_18 : m_one 18 n kd (res, stp, pcn, fk, fv, fa, fl, fs, nI t, ap) = (1, (res, stp, pcn, fk, fv, fa, fl, fs, nI t, ap + 1)) := rfl
end
section
variable {res stp pcn hgt ap kd n : Int32} {fk fv fa fl fs : Nat → Int32}
theorem m1_15 : m_one 15 n kd (res, stp, pcn, fk, fv, fa, fl, fs, hgt, ap) = if rd fs 8 (hgt - 1) = 0 then (3, (res, stp, pcn, fk, fv, fa, fl, fs, hgt - 1, n)) else (3, (res, stp, pcn, fk, fv, fa, fl, fs, hgt - 1, ap + 1)) := rfl
theorem m1_17 : m_one 17 n kd (res, stp, pcn, fk, fv, fa, fl, fs, hgt, ap) = if kd = 0 then (0, (0, stp, pcn, fk, fv, fa, fl, fs, hgt, ap + 1)) else (0, (rd fs 8 (hgt - 1), stp, pcn, fk, fv, fa, fl, fs, hgt - 1, ap + 1)) := rfl
end
