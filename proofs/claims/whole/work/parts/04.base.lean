abbrev rmk (k : Nat) : Room := { frames := k, cells := 0, slots := 0, locals := 40 * k }
def RP (a n : Nat) (f : Nat → Int32) (U : State) : Prop := va_T .int a n (fun j => .int (f j)) (fun _ => False) U U.heap
theorem RP_blind {av : List Value} {a n : Nat} {f : Nat → Int32} : FrameBlind (va_Pc av (RP a n f)) := fun a U g mk q => ⟨q.1, va_T.moved (u := U) (U := U.calling g mk a) (Vm.Alike.refl U.vm) q.2⟩
theorem rp_pre {s : State} {H : Heap} {D : va_G} {cl : List vw_C} {tys : List (ClassId × FieldType)} {ws : va_W} {cA : ClassId} {a n : Nat} {f : Nat → Int32} {i : Int32} (hK : va_K D cl tys s) (hP : va_P D cl ws H) (q0 t0 : Nat) (ha : ws[q0]? = some (a, .inl (cA, n, .inl f))) (ht : tys[t0]? = some (cA, .int)) : PreS s H (va_Pc [.ref a, .int i] (RP a n f)) [.ref a, .int i] := by
  refine ⟨RP_blind, fun U hU hW => ⟨rfl, ?_⟩⟩
  have hcell : H[a]? = some (vp_cell cA (n, .inl f)) := hP q0 _ ha
  refine ⟨vp_cell cA (n, .inl f), by rw [hU]; exact hcell, State.isArrayOf_alike hW.alike ((hK.2 t0 _ ht).1 n (fun j => .int (f j))), (fun q => by cases q), ?_, ?_, fun j hj => ?_, fun h => h⟩
  · show n ≤ (arrV _ _ _).slots.size
    rw [arrV_size]
    exact Nat.le_refl _
  · show (arrV _ _ _).slots.size.toInt32 = _
    rw [arrV_size]
  · show (arrV _ _ _).slots[j]? = _
    rw [arrV_read _ _ hj]
theorem nI_inr {n : Nat} {i : Int32} (hn : n < 2 ^ 31) (h1 : ¬ i < 0) (h2 : ¬ nI n ≤ i) : vp_in i n := by
  obtain ⟨j, hj, rfl⟩ := nI_of h1
  rw [nI_leI hn hj] at h2
  exact vp_in_nI (by omega) hn
section
variable (D : va_G) (cI cZ : ClassId) (tN tG : Nat)
theorem NWs.same {u U : State} (h : u.vm = U.vm) (hN : NWs u) : NWs U := fun w hw => va_Nw.same (nW_on w hw) h (hN w hw)
def EV (U : State) : Prop := va_K D classes [(cI, .int), (cZ, .boolean)] U ∧ NWs U
def ST (A : Nat → Prop) (U : State) (H : Heap) : Prop := va_Z R_Op "NEEDS" "[I" (.ref tN) A U H ∧ va_T .int tN 19 (fun j => .int (tNeeds j)) A U H ∧ va_Z R_Op "GROWTH" "[I" (.ref tG) A U H ∧ va_T .int tG 19 (fun j => .int (tGrow j)) A U H
def PZ (ws : va_W) (U : State) : Prop := va_P D classes ws U.heap ∧ EV D cI cZ U ∧ ST tN tG (fun _ => False) U U.heap
def MZ (ws : va_W) (sz : Nat) (U : State) : Prop := U.heap.size = sz ∧ va_P D classes ws U.heap ∧ EV D cI cZ U ∧ va_D (fun _ => True) ws ∧ ST tN tG (va_A ws sz) U U.heap
def ME (A : Nat → Prop) (ws1 : va_W) (t : State) : Prop := va_P D classes ws1 t.heap ∧ va_D A ws1
def PY (ws : va_W) (U : State) : Prop := va_P D classes ws U.heap ∧ EV D cI cZ U
def MY (ws : va_W) (sz : Nat) (U : State) : Prop := U.heap.size = sz ∧ va_P D classes ws U.heap ∧ EV D cI cZ U ∧ va_D (fun _ => True) ws
end
section
variable {D : va_G} {cI cZ : ClassId} {tN tG : Nat} {s U : State} {H : Heap} {A B : Nat → Prop} {locs : List Loc} {ws : va_W} {av As : List Value} {sz : Nat}
theorem EV.warm (hW : s.WarmedH U.vm) (h : EV D cI cZ s) : EV D cI cZ U := ⟨va_K.moved hW.alike h.1, NWs.warm hW h.2⟩
theorem EV.call {g : JFrame} {mk : MethodId} {a : Array Value} (h : EV D cI cZ U) : EV D cI cZ (U.calling g mk a) := ⟨va_K.moved (u := U) (U := U.calling g mk a) (Vm.Alike.refl U.vm) h.1, NWs.same (u := U) rfl h.2⟩
theorem ST.call {g : JFrame} {mk : MethodId} {a : Array Value} (h : ST tN tG A U U.heap) : ST tN tG A (U.calling g mk a) (U.calling g mk a).heap :=
  ⟨va_Z.moved (u := U) (U := U.calling g mk a) (Vm.Alike.refl U.vm) h.1, va_T.moved (u := U) (U := U.calling g mk a) (Vm.Alike.refl U.vm) h.2.1, va_Z.moved (u := U) (U := U.calling g mk a) (Vm.Alike.refl U.vm) h.2.2.1, va_T.moved (u := U) (U := U.calling g mk a) (Vm.Alike.refl U.vm) h.2.2.2⟩
theorem ST.use (hZ : ST tN tG A s s.heap) (hS : va_S A s.heap H locs) (hU : U.heap = H) (hW : s.WarmedH U.vm) (hB : ∀ q, B q → A q) : ST tN tG B U U.heap := by
  rw [hU]
  have hk : ∀ a : Nat, a < s.heap.size → ¬ A a → H[a]? = s.heap[a]? := fun a h1 h2 => hS.2.1 a h1 h2
  exact ⟨((hZ.1.kept hk).moved hW.alike).narrow hB, ((hZ.2.1.kept hk).moved hW.alike).narrow hB, ((hZ.2.2.1.kept hk).moved hW.alike).narrow hB, ((hZ.2.2.2.kept hk).moved hW.alike).narrow hB⟩
theorem PZ_blind : FrameBlind (va_Pc av (PZ D cI cZ tN tG ws)) := fun _ _ _ _ q => ⟨q.1, q.2.1, q.2.2.1.call, q.2.2.2.call⟩
theorem MZ_blind : FrameBlind (va_Pc av (MZ D cI cZ tN tG ws sz)) := fun _ _ _ _ q => ⟨q.1, q.2.1, q.2.2.1, q.2.2.2.1.call, q.2.2.2.2.1, q.2.2.2.2.2.call⟩
theorem PY_blind : FrameBlind (va_Pc av (PY D cI cZ ws)) := fun _ _ _ _ q => ⟨q.1, q.2.1, q.2.2.call⟩
theorem MY_blind : FrameBlind (va_Pc av (MY D cI cZ ws sz)) := fun _ _ _ _ q => ⟨q.1, q.2.1, q.2.2.1, q.2.2.2.1.call, q.2.2.2.2⟩
theorem pz_pre (hE : EV D cI cZ s) (hZ : ST tN tG A s s.heap) (hS : va_S A s.heap H locs) (hP : va_P D classes ws H) : ∀ U : State, U.heap = H → s.WarmedH U.vm → va_Pc av (PZ D cI cZ tN tG ws) av.toArray U :=
  fun U hU hW => ⟨rfl, by rw [hU]; exact hP, hE.warm hW, hZ.use hS hU hW (fun _ h => h.elim)⟩
theorem mz_pre (hE : EV D cI cZ s) (hZ : ST tN tG A s s.heap) (hS : va_S A s.heap H locs) (hP : va_P D classes ws H) (hD : va_D A ws) (hF : ∀ q, va_A ws H.size q → A q) : ∀ U : State, U.heap = H → s.WarmedH U.vm → va_Pc av (MZ D cI cZ tN tG ws H.size) av.toArray U :=
  fun U hU hW => ⟨rfl, by rw [hU], by rw [hU]; exact hP, hE.warm hW, hD.weaken (fun _ _ _ _ => trivial), hZ.use hS hU hW hF⟩
theorem py_pre (hE : EV D cI cZ s) (hP : va_P D classes ws H) : ∀ U : State, U.heap = H → s.WarmedH U.vm → va_Pc av (PY D cI cZ ws) av.toArray U :=
  fun U hU hW => ⟨rfl, by rw [hU]; exact hP, hE.warm hW⟩
theorem my_pre (hE : EV D cI cZ s) (hP : va_P D classes ws H) (hD : va_D A ws) : ∀ U : State, U.heap = H → s.WarmedH U.vm → va_Pc av (MY D cI cZ ws H.size) av.toArray U :=
  fun U hU hW => ⟨rfl, by rw [hU], by rw [hU]; exact hP, hE.warm hW, hD.weaken (fun _ _ _ _ => trivial)⟩
end
theorem rp_preT {s : State} {H : Heap} {A : Nat → Prop} {locs : List Loc} {a n : Nat} {f : Nat → Int32} {i : Int32} (hT : va_T .int a n (fun j => .int (f j)) A s s.heap) (hS : va_S A s.heap H locs) : PreS s H (va_Pc [.ref a, .int i] (RP a n f)) [.ref a, .int i] :=
  ⟨RP_blind, fun U hU hW => ⟨rfl, by
    show va_T .int a n (fun j => .int (f j)) (fun _ => False) U U.heap
    rw [hU]
    exact ((hT.kept (fun q h1 h2 => hS.2.1 q h1 h2)).moved hW.alike).narrow (fun _ h => h.elim)⟩⟩
theorem sw_ne {x k : Int32} {lo hi : Int} (h : x.toInt < lo ∨ hi < x.toInt) (hk : lo ≤ k.toInt ∧ k.toInt ≤ hi) : ¬ x = k := fun e => by
  subst e
  omega
theorem arr_congr {n : Nat} {f g : Nat → Int32} (h : ∀ j, j < n → f j = g j) (cA : ClassId) : vp_cell cA (n, .inl f) = vp_cell cA (n, .inl g) := by
  show arrV cA n (fun j => .int (f j)) = arrV cA n (fun j => .int (g j))
  unfold arrV
  congr 1
  congr 1
  funext j
  show Value.int (f j.val) = Value.int (g j.val)
  rw [h j.val j.isLt]
theorem P_arr1 {D : va_G} {a n : Nat} {cA : ClassId} {f g : Nat → Int32} {H : Heap} (h : ∀ j, j < n → f j = g j) (hP : va_P D classes [(a, .inl (cA, n, .inl f))] H) : va_P D classes [(a, .inl (cA, n, .inl g))] H := by
  intro k q hk
  have h0 := hP 0 _ rfl
  match k, hk with
  | 0, hk =>
    cases hk
    show H[a]? = some (vp_cell cA (n, .inl g))
    rw [← arr_congr h]
    exact h0
theorem D_arr1 {A : Nat → Prop} {a n : Nat} {cA : ClassId} {f g : Nat → Int32} (hD : va_D A [(a, .inl (cA, n, .inl f))]) : va_D A [(a, .inl (cA, n, .inl g))] := hD.set (p := 0) (e := .inl (cA, n, .inl g)) rfl
section
variable {p : Program} {l : Launch} {e : Env} {R : Room} {s : State} {m : MethodId} {args : Array Value} {below : List Frame} {meth : Method} {c : Code} {H : Heap} {locs : List Loc} {cells slots : Nat} {Q : State → Prop} {pc : Nat} {ls : Array Slot} {rest : List Value}
theorem lv_eqi {x y : Int32} (h : x = y) (k : W p l e R s m args below meth c H locs cells slots Q (F0 m pc ls (.int y :: rest))) : W p l e R s m args below meth c H locs cells slots Q (F0 m pc ls (.int x :: rest)) := h ▸ k
end
