section CGA
variable {p : Program} {l : Launch} {e : Env} {R : Room} {s : State} {m : MethodId} {args : Array Value} {below : List Frame} {meth : Method} {c : Code} {H : Heap} {locs : List Loc} {cells slots : Nat} {Q : State → Prop}
variable {cc : ByteArray} {pc : Nat} {ls : Array Slot} {rest st0 : List Value} {D : va_G} {G : CGT} {A : Nat → Prop} {ad : Nat → Nat → Nat} {Z Z' : CZ} {H0 : Heap} {Ts : List Cond}
theorem W_stk {st st' : List Value} (e9 : st = st') (k : W p l e R s m args below meth c H locs cells slots Q (F0 m pc ls st')) : W p l e R s m args below meth c H locs cells slots Q (F0 m pc ls st) := by
  rw [e9]
  exact k
theorem cg_new {own C : String} {T : u_T} {N ci index : Nat} (hexec : p.tables.exec = Jvm.exec) (hb : c.code = cc) (hts : ∀ w ∈ Ts, w.before args s = true) (hin : ∀ w ∈ u_ws C T N, w ∈ Ts) (ty : Nat → FieldType) (hty : ∀ k, k < N → parseFieldDescriptor (T k).2.2.1 = some (ty k)) (hown : s.vm.findClass own = some m.cls) (hcl : (Cond.classLink own index C).before args s = true) (hinst : (Cond.instantiable C N).before args s = true) (hini : (Cond.initialized C).before args s = true)
    (hK : cK D G s) (hN : cN D G ad Z H) (hS : va_S A H0 H locs) (hA : ∀ q, H0.size ≤ q → A q) (hc : vwCl[ci]? = some (C, T, N)) {fs : List Value} (hfs : ∀ j, j < N → defaultValue (ty j) = vp_V fs j) (hcells : cells + 1 ≤ R.cells) (hslots : slots + N ≤ R.slots) (hdg : decode cc pc = .ok (.new index, 3))
    (kk : ∀ (o : Nat) (H1 : Heap), va_P D vwCl [(o, .inr (ci, fs))] H1 → cN D G ad Z H1 → (∀ k i, cLv Z.2.2 k i = true → ad k i < o) → A o → va_S A H0 H1 locs →
      W p l e R s m args below meth c H1 locs (cells + 1) (slots + N) Q (F0 m (pc + 3) ls (.ref o :: rest))) : W p l e R s m args below meth c H locs cells slots Q (F0 m pc ls rest) := by
  have hKn := hK.1.1 ci _ hc
  refine W.newcK hexec hb hown hcl hinst hini rfl hdg hcells hslots hKn.2.1 rfl fun H1 kC hkC e1 z1 o1 => ?_
  refine kk H.size H1 (fun k x hx => ?_) (fun k i hl => (hN k i hl).kept (o1 _ (hN k i hl).lt)) (fun k i hl => (hN k i hl).lt) (hA _ hS.1) ⟨Nat.le_trans hS.1 (by omega), fun x h1 h2 => (o1 x (Nat.lt_of_lt_of_le h1 hS.1)).trans (hS.2.1 x h1 h2), hS.2.2⟩
  have hz : k < 1 := (List.getElem?_eq_some_iff.mp hx).1
  rw [show k = 0 by omega] at hx
  cases hx
  exact ⟨_, hc, (u_born ty hts hin hKn hkC e1 hty).to hfs⟩
/-- the named cells alone -/
def cNm (ad : Nat → Nat → Nat) (Z : CZ) : Nat → Prop := fun q => ∃ k i, cLv Z.2.2 k i = true ∧ q = ad k i
theorem cNm_I (hI : cI A ad Z.2.2) : cI (cNm ad Z) ad Z.2.2 := ⟨hI.1, fun k i h => ⟨k, i, h, rfl⟩⟩
theorem cNm_A (hI : cI A ad Z.2.2) {q : Nat} (h : cNm ad Z q) : A q := by
  obtain ⟨k, i, h, rfl⟩ := h
  exact hI.2 k i h
theorem cg_calliK {r : Int32} {o : Nat} {x : va_E} {ar : Array Value} (hP : va_P D vwCl [(o, x)] H) (hlt : ∀ k i, cLv Z.2.2 k i = true → ad k i < o) (hI : cI A ad Z.2.2) (hr : va_Run p l e R s m args below meth c H locs cells slots 0 0 (F0 m pc ls st0) rest (cQi D G (cNm ad Z) ad r Z ar) (cNm ad Z)) (hS : va_S A H0 H locs)
    (kk : ∀ (H1 : Heap) (locs1 : List Loc), cN D G ad Z H1 → va_P D vwCl [(o, x)] H1 → va_S A H0 H1 locs1 → W p l e R s m args below meth c H1 locs1 cells slots Q (F0 m (pc + 3) ls (.int r :: rest))) : W p l e R s m args below meth c H locs cells slots Q (F0 m pc ls st0) := by
  refine va_calli hr hS (fun _ _ h => cNm_A hI h) (fun _ h => cNm_A hI h) (fun r' u t H1 locs1 ht hvm hw hB hz hk hS1 => ?_)
  obtain ⟨rfl, rfl⟩ := hw
  refine kk H1 locs1 (by rw [← ht]; exact hB.2.1) (hP.kept fun k y hy => ?_) hS1
  have h0 : k < 1 := (List.getElem?_eq_some_iff.mp hy).1
  have h1 := (hP k y hy).lt
  rw [show k = 0 by omega] at hy
  cases hy
  refine hk o h1 (fun ⟨k9, i9, h9, e9⟩ => ?_)
  have := hlt k9 i9 h9
  omega
/-- the world beside a new object is as it was -/
theorem cg_beside {o : Nat} {H1 : Heap} (hlt : ∀ k i, cLv Z.2.2 k i = true → ad k i < o) (hN : cN D G ad Z H) (ho : o < H.size) (hk : ∀ q : Nat, q < H.size → ¬ (q = o ∨ H.size ≤ q) → H1[q]? = H[q]?) : cN D G ad Z H1 := fun k i hl => (hN k i hl).kept (hk _ (hN k i hl).lt (by
  have := hlt k i hl
  omega))
theorem cg_wide {B : Nat → Prop} {o sz : Nat} {ws : va_W} (hA : ∀ q, sz ≤ q → A q) (hAo : A o) (hos : o ≤ sz) (hD : va_D (fun x => x = o ∨ sz ≤ x) ws) : va_D (fun x => o ≤ x ∧ A x) ws := ⟨hD.1, fun k q h => by
  rcases hD.2 k q h with h | h
  · exact ⟨Nat.le_of_eq h.symm, h ▸ hAo⟩
  · exact ⟨Nat.le_trans hos h, hA _ h⟩⟩
theorem ca_prePan {o : Nat} {num : Int32} (hK : cK D G s) (hN : cN D G ad Z H) (hP : va_P D vwCl [(o, .inr (2, [.int 0, .null, .null, .null, .int 0]))] H) : PreS s H (va_Pc [.ref o, .int num] (fun U => U.heap.size = H.size ∧ va_P D vwCl [(o, .inr (2, [.int 0, .null, .null, .null, .int 0]))] U.heap ∧ va_K D vwCl [(G.1, .int), (G.2.1, .boolean)] U ∧ va_D (fun _ => True) [(o, .inr (2, [.int 0, .null, .null, .null, .int 0]))] ∧ cK D G U)) [.ref o, .int num] :=
  ⟨fun a U g mk q => ⟨q.1, q.2.1, q.2.2.1, va_K.moved (u := U) (U := U.calling g mk a) (Vm.Alike.refl U.vm) q.2.2.2.1, q.2.2.2.2.1, cK.moved (u := U) (U := U.calling g mk a) (Vm.Alike.refl U.vm) q.2.2.2.2.2⟩, fun U hU hW => ⟨rfl, by rw [hU], by rw [hU]; exact hP, va_K.moved hW.alike (hK.1.sub [0, 1] rfl), ⟨fun i j x y hi hj _ => by
    have h1 : i < 1 := (List.getElem?_eq_some_iff.mp hi).1
    have h2 : j < 1 := (List.getElem?_eq_some_iff.mp hj).1
    omega, fun _ _ _ => trivial⟩, hK.moved hW.alike⟩⟩
theorem ca_callPan {o i : Nat} {num : Int32} {ar : Array Value} (hr : va_Run p l e R s m args below meth c H locs cells slots 3 12 (F0 m pc ls st0) rest (va_Qv (fun _ : Nat × Nat × Nat => True) (fun u t => match u with | (q1, q2, q3) => va_P D vwCl [(o, .inr (2, [.int num, .ref q1, .ref q2, .ref q3, .int 0])), (q1, .inl (G.1, 4, .inl (fun _ => 0))), (q2, .inl (G.1, 4, .inl (fun _ => 0))), (q3, .inl (G.2.1, 4, .inl (fun _ => 0)))] t.heap ∧ va_D (fun x => x = o ∨ H.size ≤ x) [(o, .inr (2, [.int num, .ref q1, .ref q2, .ref q3, .int 0])), (q1, .inl (G.1, 4, .inl (fun _ => 0))), (q2, .inl (G.1, 4, .inl (fun _ => 0))), (q3, .inl (G.2.1, 4, .inl (fun _ => 0)))] ∧ cK D G t) (fun x => x = o ∨ H.size ≤ x) ar) (fun x => x = o ∨ H.size ≤ x)) (hS : va_S A H0 H locs) (hA : ∀ q, H0.size ≤ q → A q) (hI : cI A ad Z.2.2) (hN : cN D G ad Z H) (hR : cRL Z) (h0 : Z.2.2 0 = i) (h6 : i < 6) (hlt : ∀ k i, cLv Z.2.2 k i = true → ad k i < o) (hAo : A o) (hP : va_P D vwCl [(o, .inr (2, [.int 0, .null, .null, .null, .int 0]))] H)
    (kk : ∀ (H1 : Heap) (locs1 : List Loc) (ad' : Nat → Nat → Nat), (∀ k i', k < 5 ∨ 8 < k → ad' k i' = ad k i') → ad' 5 i = o → cI A ad' (zPan Z i num).2.2 → cN D G ad' (zPan Z i num) H1 → va_S A H0 H1 locs1 → W p l e R s m args below meth c H1 locs1 (cells + 3) (slots + 12) Q (F0 m (pc + 3) ls rest)) : W p l e R s m args below meth c H locs cells slots Q (F0 m pc ls st0) := by
  have ho : o < H.size := (hP 0 _ rfl).lt
  have hAH : ∀ q, H.size ≤ q → A q := fun q h => hA q (Nat.le_trans hS.1 h)
  have hAx : ∀ q : Nat, (q = o ∨ H.size ≤ q) → A q := fun q h => h.elim (fun z => z ▸ hAo) (hAH q)
  refine va_callv hr hS (fun q _ h => hAx q h) (fun q h => hAx q h) (fun u t H1 locs1 ht hvm hw hB hz hk hS1 => ?_)
  obtain ⟨q1, q2, q3⟩ := u
  obtain ⟨hP1, hD1, -⟩ := hB
  rw [ht] at hP1
  obtain ⟨g1, g2⟩ := mkPan (sz := o) hI (cg_beside hlt hN ho hk) hR h0 h6 hlt hP1 (cg_wide (B := A) hAH hAo (Nat.le_of_lt ho) hD1)
  exact kk H1 locs1 _ (fun k i' h => by rw [adU_n (by omega), adU_n (by omega), adU_n (by omega), adU_n (by omega)]) (by rw [adU_n (by omega), adU_n (by omega), adU_n (by omega), adU_s]) g1 g2 hS1
theorem ca_prePlayer {o : Nat} {num lay : Int32} (hK : cK D G s) (hN : cN D G ad Z H) (hP : va_P D vwCl [(o, .inr (5, [.int 0, .int 0, .null, .int 0, .int 0, .int 0]))] H) : PreS s H (va_Pc [.ref o, .int num, .int lay] (fun U => U.heap.size = H.size ∧ va_P D vwCl [(o, .inr (5, [.int 0, .int 0, .null, .int 0, .int 0, .int 0]))] U.heap ∧ va_K D vwCl [(G.1, .int), (G.2.1, .boolean)] U ∧ va_D (fun _ => True) [(o, .inr (5, [.int 0, .int 0, .null, .int 0, .int 0, .int 0]))] ∧ cK D G U)) [.ref o, .int num, .int lay] :=
  ⟨fun a U g mk q => ⟨q.1, q.2.1, q.2.2.1, va_K.moved (u := U) (U := U.calling g mk a) (Vm.Alike.refl U.vm) q.2.2.2.1, q.2.2.2.2.1, cK.moved (u := U) (U := U.calling g mk a) (Vm.Alike.refl U.vm) q.2.2.2.2.2⟩, fun U hU hW => ⟨rfl, by rw [hU], by rw [hU]; exact hP, va_K.moved hW.alike (hK.1.sub [0, 1] rfl), ⟨fun i j x y hi hj _ => by
    have h1 : i < 1 := (List.getElem?_eq_some_iff.mp hi).1
    have h2 : j < 1 := (List.getElem?_eq_some_iff.mp hj).1
    omega, fun _ _ _ => trivial⟩, hK.moved hW.alike⟩⟩
theorem ca_callPlayer {o i : Nat} {num lay : Int32} {ar : Array Value} (hr : va_Run p l e R s m args below meth c H locs cells slots 0 0 (F0 m pc ls st0) rest (va_Qv (fun _ : Unit => True) (fun u t => match u with | () => va_P D vwCl [(o, .inr (5, [.int num, .int lay, .null, .int 0, .int (-1), .int 0]))] t.heap ∧ va_D (fun x => x = o ∨ H.size ≤ x) [(o, .inr (5, [.int num, .int lay, .null, .int 0, .int (-1), .int 0]))] ∧ cK D G t) (fun x => x = o ∨ H.size ≤ x) ar) (fun x => x = o ∨ H.size ≤ x)) (hS : va_S A H0 H locs) (hA : ∀ q, H0.size ≤ q → A q) (hI : cI A ad Z.2.2) (hN : cN D G ad Z H) (hR : cRL Z) (h0 : Z.2.2 1 = i) (hlt : ∀ k i, cLv Z.2.2 k i = true → ad k i < o) (hAo : A o) (hP : va_P D vwCl [(o, .inr (5, [.int 0, .int 0, .null, .int 0, .int 0, .int 0]))] H)
    (kk : ∀ (H1 : Heap) (locs1 : List Loc) (ad' : Nat → Nat → Nat), (∀ k i', k ≠ 9 → ad' k i' = ad k i') → ad' 9 i = o → cI A ad' (zPlayer Z i num lay).2.2 → cN D G ad' (zPlayer Z i num lay) H1 → va_S A H0 H1 locs1 → W p l e R s m args below meth c H1 locs1 (cells + 0) (slots + 0) Q (F0 m (pc + 3) ls rest)) : W p l e R s m args below meth c H locs cells slots Q (F0 m pc ls st0) := by
  have ho : o < H.size := (hP 0 _ rfl).lt
  have hAH : ∀ q, H.size ≤ q → A q := fun q h => hA q (Nat.le_trans hS.1 h)
  have hAx : ∀ q : Nat, (q = o ∨ H.size ≤ q) → A q := fun q h => h.elim (fun z => z ▸ hAo) (hAH q)
  refine va_callv hr hS (fun q _ h => hAx q h) (fun q h => hAx q h) (fun u t H1 locs1 ht hvm hw hB hz hk hS1 => ?_)
  obtain ⟨⟩ := u
  obtain ⟨hP1, hD1, -⟩ := hB
  rw [ht] at hP1
  obtain ⟨g1, g2⟩ := mkPlayer (sz := o) hI (cg_beside hlt hN ho hk) hR h0 hlt hP1 (cg_wide (B := A) hAH hAo (Nat.le_of_lt ho) hD1)
  exact kk H1 locs1 _ (fun k i' h => by rw [adU_n (by omega)]) (by rw [adU_s]) g1 g2 hS1
theorem ca_preSeat {o : Nat} {pl : Nat} (hK : cK D G s) (hN : cN D G ad Z H) (hP : va_P D vwCl [(o, .inr (6, [.null, .null]))] H) : PreS s H (va_Pc [.ref o, .ref (ad 9 pl)] (fun U => U.heap.size = H.size ∧ va_P D vwCl [(o, .inr (6, [.null, .null]))] U.heap ∧ va_K D vwCl [(G.1, .int), (G.2.1, .boolean)] U ∧ va_D (fun _ => True) [(o, .inr (6, [.null, .null]))] ∧ cK D G U)) [.ref o, .ref (ad 9 pl)] :=
  ⟨fun a U g mk q => ⟨q.1, q.2.1, q.2.2.1, va_K.moved (u := U) (U := U.calling g mk a) (Vm.Alike.refl U.vm) q.2.2.2.1, q.2.2.2.2.1, cK.moved (u := U) (U := U.calling g mk a) (Vm.Alike.refl U.vm) q.2.2.2.2.2⟩, fun U hU hW => ⟨rfl, by rw [hU], by rw [hU]; exact hP, va_K.moved hW.alike (hK.1.sub [0, 1] rfl), ⟨fun i j x y hi hj _ => by
    have h1 : i < 1 := (List.getElem?_eq_some_iff.mp hi).1
    have h2 : j < 1 := (List.getElem?_eq_some_iff.mp hj).1
    omega, fun _ _ _ => trivial⟩, hK.moved hW.alike⟩⟩
theorem ca_callSeat {o i : Nat} {pl : Nat} {ar : Array Value} (hr : va_Run p l e R s m args below meth c H locs cells slots 1 6 (F0 m pc ls st0) rest (va_Qv (fun _ : Nat => True) (fun u t => match u with | q1 => va_P D vwCl [(o, .inr (6, [.ref (ad 9 pl), .ref q1])), (q1, .inl (G.1, 6, .inl (fun _ => 0)))] t.heap ∧ va_D (fun x => x = o ∨ H.size ≤ x) [(o, .inr (6, [.ref (ad 9 pl), .ref q1])), (q1, .inl (G.1, 6, .inl (fun _ => 0)))] ∧ cK D G t) (fun x => x = o ∨ H.size ≤ x) ar) (fun x => x = o ∨ H.size ≤ x)) (hS : va_S A H0 H locs) (hA : ∀ q, H0.size ≤ q → A q) (hI : cI A ad Z.2.2) (hN : cN D G ad Z H) (hR : cRL Z) (h0 : Z.2.2 2 = i) (hpl : cLv Z.2.2 9 pl = true) (hlt : ∀ k i, cLv Z.2.2 k i = true → ad k i < o) (hAo : A o) (hP : va_P D vwCl [(o, .inr (6, [.null, .null]))] H)
    (kk : ∀ (H1 : Heap) (locs1 : List Loc) (ad' : Nat → Nat → Nat), (∀ k i', k ≠ 13 ∧ k ≠ 14 → ad' k i' = ad k i') → ad' 13 i = o → cI A ad' (zSeat Z i pl).2.2 → cN D G ad' (zSeat Z i pl) H1 → va_S A H0 H1 locs1 → W p l e R s m args below meth c H1 locs1 (cells + 1) (slots + 6) Q (F0 m (pc + 3) ls rest)) : W p l e R s m args below meth c H locs cells slots Q (F0 m pc ls st0) := by
  have ho : o < H.size := (hP 0 _ rfl).lt
  have hAH : ∀ q, H.size ≤ q → A q := fun q h => hA q (Nat.le_trans hS.1 h)
  have hAx : ∀ q : Nat, (q = o ∨ H.size ≤ q) → A q := fun q h => h.elim (fun z => z ▸ hAo) (hAH q)
  refine va_callv hr hS (fun q _ h => hAx q h) (fun q h => hAx q h) (fun u t H1 locs1 ht hvm hw hB hz hk hS1 => ?_)
  obtain ⟨q1, eq1⟩ : ∃ y, y = u := ⟨_, rfl⟩
  rw [← eq1] at hB
  obtain ⟨hP1, hD1, -⟩ := hB
  rw [ht] at hP1
  obtain ⟨g1, g2⟩ := mkSeat (sz := o) hI (cg_beside hlt hN ho hk) hR h0 hpl hlt hP1 (cg_wide (B := A) hAH hAo (Nat.le_of_lt ho) hD1)
  exact kk H1 locs1 _ (fun k i' h => by rw [adU_n (by omega), adU_n (by omega)]) (by rw [adU_n (by omega), adU_s]) g1 g2 hS1
/-! list.add -/
theorem ca_preV {lx v : Nat} (hI : cI A ad Z.2.2) (hK : cK D G s) (hN : cN D G ad Z H) (hF : cF G A s s.heap) (hA : ∀ q, s.heap.size ≤ q → A q) (hS : va_S A s.heap H locs) (h8 : cLv Z.2.2 3 lx = true) : PreV s H "java/util/ArrayList" (ad 3 lx) (va_Pc [.ref (ad 3 lx), .ref (ad (cEk lx) v)] (fun U => cP D G A ad Z U ∧ cF G A U U.heap ∧ ∀ q, U.heap.size ≤ q → A q)) [.ref (ad (cEk lx) v)] :=
  ⟨fun a U g mk q => ⟨q.1, ⟨q.2.1.1, q.2.1.2.1, cK.moved (u := U) (U := U.calling g mk a) (Vm.Alike.refl U.vm) q.2.1.2.2⟩, q.2.2.1.go (s := U) (U := U.calling g mk a) va_S.rf (Vm.Alike.refl U.vm), q.2.2.2⟩, cg_recv hK hN h8 rfl (ci := 0) rfl, fun U hU hW => ⟨rfl, ⟨hI, by rw [hU]; exact hN, hK.moved hW.alike⟩, by rw [hU]; exact hF.go hS hW.alike, fun q h => hA q (Nat.le_trans hS.1 (by rw [← hU]; exact h))⟩⟩
theorem cg_add {lx v : Nat} {ar : Array Value} (hr : va_Run p l e R s m args below meth c H locs cells slots 1 40 (F0 m pc ls st0) rest (va_Qi (fun (_ : Int32) (_ : Nat) => True) (fun q t => cP D G A (adU ad 4 lx q) (zAdd Z lx v) t) A ar) A) (hS : va_S A H0 H locs)
    (kk : ∀ (H1 : Heap) (locs1 : List Loc) (r : Int32) (ad' : Nat → Nat → Nat), (∀ k i, k ≠ 4 → ad' k i = ad k i) → cI A ad' (zAdd Z lx v).2.2 → cN D G ad' (zAdd Z lx v) H1 → va_S A H0 H1 locs1 → W p l e R s m args below meth c H1 locs1 (cells + 1) (slots + 40) Q (F0 m (pc + 3) ls (.int r :: rest))) : W p l e R s m args below meth c H locs cells slots Q (F0 m pc ls st0) := by
  refine va_calli hr hS (fun _ _ h => h) (fun _ h => h) (fun r' u t H1 locs1 ht hvm hw hB hz hk hS1 => ?_)
  exact kk H1 locs1 r' _ (fun k i h => adU_n (fun z => h z.1)) hB.1 (by rw [← ht]; exact hB.2.1) hS1
/-- an answer, where the class's world may have grown -/
def aQi (D : va_G) (G : CGT) (A : Nat → Prop) (ad : Nat → Nat → Nat) (rz : Int32 ⊕ Int32) (Z' : CZ) : Array Value → State → Outcome → State → Prop := va_Qi (fun (r' : Int32) (u : CZ × (Nat → Nat → Nat)) => rz = .inl r' ∧ u.1 = Z' ∧ u.2 0 0 = ad 0 0) (fun u t => cP D G A u.2 u.1 t) A
def aP (D : va_G) (G : CGT) (A : Nat → Prop) (ad : Nat → Nat → Nat) (Z : CZ) (U : State) : Prop := xP D G A ad Z U ∧ cF G A U U.heap ∧ ∀ q, U.heap.size ≤ q → A q
theorem ag_end {ad0 : Nat → Nat → Nat} {Zf : CZ} {rv : Int32} {rz : Int32 ⊕ Int32} {Z1 : CZ} (h : some (Sum.inl rv, Z1) = some (rz, Zf)) (ha : ad 0 0 = ad0 0 0) (hI : cI A ad Z1.2.2) (hK : cK D G s) (hN : cN D G ad Z1 H) (hS : va_S A s.heap H locs) (t : State) (ht : t.heap = H) (hW : s.WarmedH t.vm) : aQi D G A ad0 rz Zf args s (.returned (some (.int rv))) t := by
  cases h
  exact ⟨⟨_, (_, ad), rfl, ⟨rfl, rfl, ha⟩, hI, by rw [ht]; exact hN, hK.moved hW.alike⟩, hS.F ht⟩
end CGA
