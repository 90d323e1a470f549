section LGA
variable {p : Program} {l : Launch} {e : Env} {R : Room} {s : State} {m : MethodId} {args : Array Value} {below : List Frame} {meth : Method} {c : Code} {H : Heap} {locs : List Loc} {cells slots : Nat} {Q : State → Prop}
variable {cc : ByteArray} {pc : Nat} {ls : Array Slot} {rest st0 : List Value} {D : va_G} {G : CGT} {A : Nat → Prop} {ad : Nat → Nat → Nat} {Z Z' : CZ} {H0 : Heap} {Ts : List Cond}
theorem iw_P1 {q : Nat} {x : va_E} (h : va_at D vwCl (q, x) H) : va_P D vwCl [(q, x)] H := fun k y hy => by
  have h1 : k < 1 := (List.getElem?_eq_some_iff.mp hy).1
  rw [show k = 0 by omega] at hy
  cases hy
  exact h
theorem lg_last {f : Nat → Int64} {x : Int64} {q : Nat} {cJ : ClassId} (hx : p.tables.exec = Jvm.exec) (hb : c.code = cc) (hK : va_K D vwCl [(cJ, .long)] s) (hq : va_at D vwCl (q, .inl (cJ, 1, .inr (.inl f))) H) (hN : cN D G ad Z H) (hI : cI A ad Z.2.2) (hnq : ¬ A q) (hS : va_S (fun y => A y ∨ y = q) H0 H locs) (hdg : decode cc pc = .ok (.lastore, 1))
    (kk : ∀ (H1 : Heap) (locs1 : List Loc), va_at D vwCl (q, .inl (cJ, 1, .inr (.inl (vp_updL f 0 x)))) H1 → cN D G ad Z H1 → va_S (fun y => A y ∨ y = q) H0 H1 locs1 → W p l e R s m args below meth c H1 locs1 cells slots Q (F0 m (pc + 1) ls rest)) : W p l e R s m args below meth c H locs cells slots Q (F0 m pc ls (.long x :: .int 0 :: .ref q :: rest)) := by
  have hP := iw_P1 hq
  have hD : va_D (fun y => A y ∨ y = q) [(q, (.inl (cJ, 1, .inr (.inl f)) : va_E))] := iw_D1 (Or.inr rfl)
  refine W.last hx hb (hP 0 _ rfl) ((hK.2 0 _ rfl).1 1 (fun j => .long (f j))) (fun q => by cases q) (by show ¬ ((0 : Int32) < 0 ∨ (arrV _ _ _).slots.size ≤ _); rw [arrV_size]; show ¬ ((0 : Int32) < 0 ∨ 1 ≤ (0 : Int32).toNatClampNeg); decide) rfl rfl hdg fun H1 e z oq => ?_
  refine kk H1 _ ?_ (fun k i hl => (hN k i hl).kept (oq _ (fun e => hnq (by have e2 : ad k i = q := e; rw [← e2]; exact hI.2 k i hl)))) (hS.put z oq (Or.inr rfl))
  show H1[q]? = some (vp_cell _ _)
  rw [e, vp_cell_l, vp_cell_l, arrV_store]
  congr 2
  funext j
  have c0 : (0 : Int32).toNatClampNeg = 0 := by decide
  rw [c0]
  by_cases h : j = 0
  · subst h
    simp [updV, vp_updL]
  · simp [updV, vp_updL, h]
/-- that the three are not each other's kin -/
def lNc (U : State) : Prop := ∀ x ∈ cCa, ∀ y ∈ cCa, x ≠ y → va_Nc x y U
def lP (D : va_G) (G : CGT) (A : Nat → Prop) (ad : Nat → Nat → Nat) (Z : CZ) (cJ : ClassId) (q : Nat) (f : Nat → Int64) (U : State) : Prop := aP D G A ad Z U ∧ va_at D vwCl (q, .inl (cJ, 1, .inr (.inl f))) U.heap ∧ va_K D vwCl [(cJ, .long)] U ∧ lNc U ∧ ¬ A q
def lQ (D : va_G) (G : CGT) (A : Nat → Prop) (ad : Nat → Nat → Nat) (r : Int32) (Z' : CZ) (cJ : ClassId) (q : Nat) (P : (Nat → Int64) → Prop) : Array Value → State → Outcome → State → Prop := va_Qi (fun (r' : Int32) (u : CZ × (Nat → Nat → Nat) × (Nat → Int64)) => r' = r ∧ u.1 = Z' ∧ u.2.1 0 0 = ad 0 0 ∧ P u.2.2) (fun u t => cP D G A u.2.1 u.1 t ∧ va_at D vwCl (q, .inl (cJ, 1, .inr (.inl u.2.2))) t.heap) (fun x => A x ∨ x = q)
theorem lg_end {ad0 : Nat → Nat → Nat} {r : Int32} {cJ : ClassId} {q : Nat} {f : Nat → Int64} {P : (Nat → Int64) → Prop} (hP : P f) (ha : ad 0 0 = ad0 0 0) (hI : cI A ad Z.2.2) (hK : cK D G s) (hN : cN D G ad Z H) (hq : va_at D vwCl (q, .inl (cJ, 1, .inr (.inl f))) H) (hS : va_S (fun y => A y ∨ y = q) s.heap H locs) (t : State) (ht : t.heap = H) (hW : s.WarmedH t.vm) : lQ D G A ad0 r Z cJ q P args s (.returned (some (.int r))) t :=
  ⟨⟨_, (_, ad, f), rfl, ⟨rfl, rfl, ha, hP⟩, ⟨hI, by rw [ht]; exact hN, hK.moved hW.alike⟩, by rw [ht]; exact hq⟩, hS.F ht⟩
theorem lg_preV {as : List Value} (hI : cI A ad Z.2.2) (hK : cK D G s) (hN : cN D G ad Z s.heap) (hE : cE A s s.heap) (hF : cF G A s s.heap) (hA : ∀ q, s.heap.size ≤ q → A q) : PreV s s.heap RX6 (ad 0 0) (va_Pc (.ref (ad 0 0) :: as) (aP D G A ad Z)) as :=
  ⟨fun a U g mk q => ⟨q.1, (xP_call (as := .ref (ad 0 0) :: as) a U g mk ⟨q.1, q.2.1⟩).2, q.2.2.1.go (s := U) (U := U.calling g mk a) va_S.rf (Vm.Alike.refl U.vm), q.2.2.2⟩, cg_recv (k := 0) (i := 0) hK hN rfl rfl (ci := 7) rfl, fun U hU hW => ⟨rfl, ⟨⟨hI, by rw [hU]; exact hN, hK.moved hW.alike⟩, by rw [hU]; exact hE.go va_S.rf hW⟩, by rw [hU]; exact hF.go va_S.rf hW.alike, fun q h => hA q (by rw [← hU]; exact h)⟩⟩
end LGA
