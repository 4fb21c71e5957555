/-! the system's words: rows read and written by index, ops, the program, the ways, the machine -/
def rd (f : Nat → Int32) (n : Nat) (i : Int32) : Int32 := if i < 0 then 0 else if nI n ≤ i then 0 else f i.toNatClampNeg
def wr (f : Nat → Int32) (n : Nat) (i v : Int32) : Nat → Int32 := if i < 0 then f else if nI n ≤ i then f else upd f i.toNatClampNeg v
def tNeeds (j : Nat) : Int32 := ([0, 0, 0, 1, 1, 2, 1, 2, 2, 2, 2, 2, 2, 2, 0, 1, 2, 1, 0] : List Int32).getD j 0
def tGrow (j : Nat) : Int32 := ([1, 1, 1, -1, 1, 0, -1, -1, -1, -1, -1, -1, -1, -1, 0, -1, -2, 0, 0] : List Int32).getD j 0
def o_isOf (op kd : Int32) : Int32 := if op = 16 then (if kd = 0 then 1 else 0) else if op = 18 then (if kd = 3 then 1 else 0) else if op < 0 then 0 else if 17 < op then 0 else 1
def o_needs (op kd : Int32) : Int32 := if op = 17 then (if kd = 0 then 0 else rd tNeeds 19 op) else rd tNeeds 19 op
def o_grow (op : Int32) : Int32 := rd tGrow 19 op
def o_jump (op : Int32) : Int32 := if op = 14 then 1 else if op = 15 then 1 else 0
def o_next (op : Int32) : Int32 := if op = 14 then 0 else if op = 17 then 0 else if op = 18 then 0 else 1
def p_has (sz k : Int32) : Int32 := if k < 0 then 0 else if sz ≤ k then 0 else 1
def p_lim (ac sz op : Int32) : Int32 := if op = 1 then ac else if op = 2 then 4 else if op = 3 then 4 else if op = 14 then sz else if op = 15 then sz else -1
def p_wf (kd sz ac : Int32) (fo fn : Nat → Int32) (k : Int32) : Int32 := if o_isOf (rd fo 64 k) kd = 0 then 0 else if p_lim ac sz (rd fo 64 k) = -1 then 1 else if rd fn 64 k < 0 then 0 else if p_lim ac sz (rd fo 64 k) ≤ rd fn 64 k then 0 else 1
def p_fit (kd op h : Int32) : Int32 := if h < o_needs op kd then 0 else if 8 < h + o_grow op then 0 else 1
def p_cbd (kd sz ac : Int32) (fo fn : Nat → Int32) (k h : Int32) : Int32 := if p_wf kd sz ac fo fn k = 0 then 0 else if o_next (rd fo 64 k) = 0 then p_fit kd (rd fo 64 k) h else if p_has sz (k + 1) = 0 then 0 else p_fit kd (rd fo 64 k) h
abbrev WS : Type := (Nat → Int32) × (Nat → Int32) × Int32
def w_isR (fr : Nat → Int32) (k h : Int32) : Int32 := if (rd fr 64 k >>> (h &&& 31)) &&& 1 = 0 then 0 else 1
def w_reach (sz k h : Int32) (u : WS) : WS := if p_has sz k = 0 then u else if w_isR u.1 k h = 0 then (wr u.1 64 k (rd u.1 64 k ||| (1 <<< (h &&& 31))), wr u.2.1 576 u.2.2 (k * 9 + h), u.2.2 + 1) else u
def w_goOn (kd sz ac : Int32) (fo fn : Nat → Int32) (k h : Int32) (u : WS) : WS :=
  if p_cbd kd sz ac fo fn k h = 0 then u else
  if o_next (rd fo 64 k) = 0 then (if o_jump (rd fo 64 k) = 0 then u else w_reach sz (rd fn 64 k) (h + o_grow (rd fo 64 k)) u)
  else (if o_jump (rd fo 64 k) = 0 then w_reach sz (k + 1) (h + o_grow (rd fo 64 k)) u else w_reach sz (rd fn 64 k) (h + o_grow (rd fo 64 k)) (w_reach sz (k + 1) (h + o_grow (rd fo 64 k)) u))
def w_loop (kd sz ac : Int32) (fo fn : Nat → Int32) : Nat → Int32 → WS → WS
  | 0, _, u => u
  | n + 1, i, u => if nI 576 ≤ i then u else if u.2.2 ≤ i then u else w_loop kd sz ac fo fn n (i + 1) (w_goOn kd sz ac fo fn (rd u.2.1 576 i / 9) (rd u.2.1 576 i - rd u.2.1 576 i / 9 * 9) u)
def w_follow (kd sz ac : Int32) (fo fn fw : Nat → Int32) : WS := w_loop kd sz ac fo fn 576 0 (w_reach sz 0 0 (fun _ => 0, fw, 0))
def w_wrongL (kd sz ac : Int32) (fo fn fr : Nat → Int32) (k : Int32) : Nat → Int32 → Int32
  | 0, _ => 0
  | n + 1, h => if 9 ≤ h then 0 else if w_isR fr k h = 0 then w_wrongL kd sz ac fo fn fr k n (h + 1) else if p_cbd kd sz ac fo fn k h = 0 then 1 else w_wrongL kd sz ac fo fn fr k n (h + 1)
abbrev MS : Type := Int32 × Int32 × Int32 × (Nat → Int32) × (Nat → Int32) × (Nat → Int32) × (Nat → Int32) × (Nat → Int32) × Int32 × Int32
def m_comb (op x y : Int32) : Int32 := if op = 7 then x + y else if op = 8 then x - y else if op = 9 then x * y else if op = 10 then (if y = 0 then 0 else x / y) else if op = 11 then (if y = 0 then 0 else x - x / y * y) else if op = 12 then (if y ≤ x then 0 else 1) else (if x = y then 1 else 0)
def m_move (op n : Int32) : MS → MS
  | (res, stp, pcn, fk, fv, fa, fl, fs, ht, ap) =>
    if op = 0 then (res, stp, pcn, fk, fv, fa, fl, wr fs 8 ht n, ht + 1, ap)
    else if op = 1 then (res, stp, pcn, fk, fv, fa, fl, wr fs 8 ht (rd fa 3 n), ht + 1, ap)
    else if op = 2 then (res, stp, pcn, fk, fv, fa, fl, wr fs 8 ht (rd fl 4 n), ht + 1, ap)
    else if op = 3 then (res, stp, pcn, fk, fv, fa, wr fl 4 n (rd fs 8 (ht - 1)), fs, ht - 1, ap)
    else if op = 4 then (res, stp, pcn, fk, fv, fa, fl, wr (wr fs 8 (ht - 1) (rd fs 8 (ht - 1))) 8 (ht - 1 + 1) (rd fs 8 (ht - 1)), ht - 1 + 1 + 1, ap)
    else if op = 5 then (res, stp, pcn, fk, fv, fa, fl, wr (wr fs 8 (ht - 1 - 1) (rd fs 8 (ht - 1))) 8 (ht - 1 - 1 + 1) (rd fs 8 (ht - 1 - 1)), ht - 1 - 1 + 1 + 1, ap)
    else if op = 6 then (res, stp, pcn, fk, fv, fa, fl, fs, ht - 1, ap)
    else (res, stp, pcn, fk, fv, fa, fl, wr fs 8 (ht - 1 - 1) (m_comb op (rd fs 8 (ht - 1 - 1)) (rd fs 8 (ht - 1))), ht - 1 - 1 + 1, ap)
def m_emit : MS → Int32 × MS
  | (res, stp, pcn, fk, fv, fa, fl, fs, ht, ap) =>
    if pcn < 20 then (3, (res, stp, pcn + 1, wr fk 20 pcn (rd fs 8 (ht - 1 - 1)), wr fv 20 pcn (rd fs 8 (ht - 1)), fa, fl, fs, ht - 1 - 1, ap))
    else (2, (res, stp, pcn, fk, fv, fa, fl, fs, ht, ap))
def m_one (op n kd : Int32) : MS → Int32 × MS
  | (res, stp, pcn, fk, fv, fa, fl, fs, ht, ap) =>
    if op = 14 then (3, (res, stp, pcn, fk, fv, fa, fl, fs, ht, n))
    else if op = 15 then (if rd fs 8 (ht - 1) = 0 then (3, (res, stp, pcn, fk, fv, fa, fl, fs, ht - 1, n)) else (3, (res, stp, pcn, fk, fv, fa, fl, fs, ht - 1, ap + 1)))
    else if op = 16 then m_emit (res, stp, pcn, fk, fv, fa, fl, fs, ht, ap + 1)
    else if op = 17 then (if kd = 0 then (0, (0, stp, pcn, fk, fv, fa, fl, fs, ht, ap + 1)) else (0, (rd fs 8 (ht - 1), stp, pcn, fk, fv, fa, fl, fs, ht - 1, ap + 1)))
    else if op = 18 then (1, (res, stp, pcn, fk, fv, fa, fl, fs, ht, ap + 1))
    else (3, m_move op n (res, stp, pcn, fk, fv, fa, fl, fs, ht, ap + 1))
def m_tick : MS → MS
  | (res, stp, pcn, fk, fv, fa, fl, fs, ht, ap) => (res, stp + 1, pcn, fk, fv, fa, fl, fs, ht, ap)
def m_ap : MS → Int32
  | (_, _, _, _, _, _, _, _, _, ap) => ap
def m_zero : MS → MS
  | (res, stp, _, fk, fv, fa, fl, fs, ht, ap) => (res, stp, 0, fk, fv, fa, fl, fs, ht, ap)
def m_loop (kd : Int32) (fo fn : Nat → Int32) : Nat → Int32 → MS → Int32 × MS
  | 0, o, S => (o, S)
  | n + 1, o, S => if o = 3 then m_loop kd fo fn n (m_one (rd fo 64 (m_ap S)) (rd fn 64 (m_ap S)) kd (m_tick S)).1 (m_one (rd fo 64 (m_ap S)) (rd fn 64 (m_ap S)) kd (m_tick S)).2 else (o, S)
def m_fin (x : Int32 × MS) : Int32 × MS := if x.1 = 3 then (2, m_zero x.2) else if x.1 = 2 then (2, m_zero x.2) else x
def m_begin (a b c : Int32) : MS → MS
  | (_, _, _, fk, fv, fa, _, fs, _, _) => (0, 0, 0, fk, fv, wr (wr (wr fa 3 0 a) 3 1 b) 3 2 c, fun _ => 0, fs, 0, 0)
def m_run (kd : Int32) (fo fn : Nat → Int32) (a b c : Int32) (S : MS) : Int32 × MS := m_fin (m_loop kd fo fn 300 3 (m_begin a b c S))
