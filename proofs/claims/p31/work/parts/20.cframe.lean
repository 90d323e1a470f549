/-! The class's world, by names (kind, number): 0 the Panyard, 1 its Planner, 2 its Parts, 3 the lists (0 pans, 1 players, 2 bands, 3 trials, 4 + b the seats of band b), 4 their arrays, 5 pans (trials are 6, 7, 8), 6 tones, 7 blows, 8 sunk, 9 players, 10 bands, 11 songs, 12 marks, 13 seats (in the order in which they were made), 14 known, 15 the row, 16 playing, 17 fewest, 18 its rows. A state Z: numbers by kind, number and place; references likewise, by the number of what is referred to; counts: 0 pans, 1 players, 2 seats, 10 + l the places of list l's array. -/
abbrev CZ : Type := (Nat → Nat → Nat → Int32) × (Nat → Nat → Nat → Option Nat) × (Nat → Nat)
abbrev CGT : Type := ClassId × ClassId × ClassId × ClassId × Nat
def cLv (n : Nat → Nat) (k i : Nat) : Bool := match k with
  | 0 => decide (i = 0) | 1 => decide (i = 0) | 2 => decide (i = 0)
  | 3 => decide (i < 8)
  | 4 => decide (i < 8) && decide (0 < n (10 + i))
  | 5 => decide (i < n 0) || (decide (6 ≤ i) && decide (i < 9))
  | 6 => decide (i < n 0) || (decide (6 ≤ i) && decide (i < 9))
  | 7 => decide (i < n 0) || (decide (6 ≤ i) && decide (i < 9))
  | 8 => decide (i < n 0) || (decide (6 ≤ i) && decide (i < 9))
  | 9 => decide (i < n 1)
  | 10 => decide (i < 4) | 11 => decide (i < 4) | 12 => decide (i < 4)
  | 13 => decide (i < n 2) | 14 => decide (i < n 2)
  | 15 => decide (i = 0) | 16 => decide (i = 0) | 17 => decide (i = 0)
  | 18 => decide (i < 6)
  | _ => false
/-- the kind of what a list holds -/
def cEk (l : Nat) : Nat := match l with
  | 0 => 5 | 1 => 9 | 2 => 10 | 3 => 5
  | _ => 13
def cC (ad : Nat → Nat → Nat) (G : CGT) (k i : Nat) (r : Nat → Int32) (q : Nat → Option Nat) (cap : Nat) : va_E := match k with
  | 0 => .inr (7, [.ref (ad 3 0), .ref (ad 3 1), .ref (ad 3 2), .ref (ad 1 0), .ref (ad 2 0), .int (r 5), .int (r 6)])
  | 1 => .inr (4, [.ref (ad 15 0), .ref (ad 3 3)])
  | 2 => .inr (3, [.ref (ad 16 0), .ref (ad 17 0)])
  | 3 => .inr (0, [.int (r 0), .ref (if cap = 0 then G.2.2.2.2 else ad 4 i), .int (r 2)])
  | 4 => .inl (G.2.2.1, cap, .inr (.inr (.inr (.inr (fun j => (q j).map (ad (cEk i)))))))
  | 5 => .inr (2, [.int (r 0), .ref (ad 6 i), .ref (ad 7 i), .ref (ad 8 i), .int (r 4)])
  | 6 => .inl (G.1, 4, .inl r)
  | 7 => .inl (G.1, 4, .inl r)
  | 8 => .inl (G.2.1, 4, .inl r)
  | 9 => .inr (5, [.int (r 0), .int (r 1), va_rf ((q 2).map (ad 5)), .int (r 3), .int (r 4), .int (r 5)])
  | 10 => .inr (1, [.ref (ad 3 (i + 4)), .ref (ad 11 i), .ref (ad 12 i), .int (r 3), .int (r 4), .int (r 5), .int (r 6)])
  | 11 => .inl (G.1, 24, .inl r)
  | 12 => .inl (G.1, 5, .inl r)
  | 13 => .inr (6, [va_rf ((q 0).map (ad 9)), .ref (ad 14 i)])
  | 14 => .inl (G.1, 6, .inl r)
  | 15 => .inl (G.1, 3, .inl r)
  | 16 => .inl (G.1, 6, .inl r)
  | 17 => .inl (G.2.2.2.1, 6, .inr (.inr (.inr (.inr (fun j => if j < 6 then some (ad 18 j) else none)))))
  | _ => .inl (G.1, 8, .inl r)
def cS (ad : Nat → Nat → Nat) (G : CGT) (Z : CZ) (k i : Nat) : va_E := cC ad G k i (Z.1 k i) (Z.2.1 k i) (Z.2.2 (10 + i))
/-- the numbers of the cell (k, i) are r now -/
def cuI (Z : CZ) (k i : Nat) (r : Nat → Int32) : CZ := (fun k' i' => if k' = k ∧ i' = i then r else Z.1 k' i', Z.2)
def cuR (Z : CZ) (k i : Nat) (q : Nat → Option Nat) : CZ := (Z.1, fun k' i' => if k' = k ∧ i' = i then q else Z.2.1 k' i', Z.2.2)
theorem cuI_s {Z : CZ} {k i : Nat} {r : Nat → Int32} : (cuI Z k i r).1 k i = r := if_pos ⟨rfl, rfl⟩
theorem cuI_n {Z : CZ} {k i k' i' : Nat} {r : Nat → Int32} (h : ¬ (k' = k ∧ i' = i)) : (cuI Z k i r).1 k' i' = Z.1 k' i' := if_neg h
theorem cuR_s {Z : CZ} {k i : Nat} {q : Nat → Option Nat} : (cuR Z k i q).2.1 k i = q := if_pos ⟨rfl, rfl⟩
theorem cuR_n {Z : CZ} {k i k' i' : Nat} {q : Nat → Option Nat} (h : ¬ (k' = k ∧ i' = i)) : (cuR Z k i q).2.1 k' i' = Z.2.1 k' i' := if_neg h
theorem cS_I {ad : Nat → Nat → Nat} {G : CGT} {Z : CZ} {k i : Nat} {r : Nat → Int32} : cS ad G (cuI Z k i r) k i = cC ad G k i r (Z.2.1 k i) (Z.2.2 (10 + i)) := by
  unfold cS
  rw [cuI_s]
  rfl
theorem cS_In {ad : Nat → Nat → Nat} {G : CGT} {Z : CZ} {k i : Nat} {r : Nat → Int32} (k' i' : Nat) (h : ¬ (k' = k ∧ i' = i)) : cS ad G (cuI Z k i r) k' i' = cS ad G Z k' i' := by
  unfold cS
  rw [cuI_n h]
  rfl
theorem cS_R {ad : Nat → Nat → Nat} {G : CGT} {Z : CZ} {k i : Nat} {q : Nat → Option Nat} : cS ad G (cuR Z k i q) k i = cC ad G k i (Z.1 k i) q (Z.2.2 (10 + i)) := by
  unfold cS
  rw [cuR_s]
  rfl
theorem cS_Rn {ad : Nat → Nat → Nat} {G : CGT} {Z : CZ} {k i : Nat} {q : Nat → Option Nat} (k' i' : Nat) (h : ¬ (k' = k ∧ i' = i)) : cS ad G (cuR Z k i q) k' i' = cS ad G Z k' i' := by
  unfold cS
  rw [cuR_n h]
  rfl
def cN (D : va_G) (G : CGT) (ad : Nat → Nat → Nat) (Z : CZ) (H : Heap) : Prop := nw D vwCl ad (fun k i => cLv Z.2.2 k i = true) (cS ad G Z) H
def cI (A : Nat → Prop) (ad : Nat → Nat → Nat) (n : Nat → Nat) : Prop := nwI A ad (fun k i => cLv n k i = true)
def cCo : List String := ["Panyard$Pan", "Panyard$Player", "Panyard$Band", "Panyard$Seat"]
def cK (D : va_G) (G : CGT) (U : State) : Prop := va_K D vwCl [(G.1, .int), (G.2.1, .boolean), (G.2.2.1, .object "java/lang/Object"), (G.2.2.2.1, .array .int)] U ∧ ∀ n ∈ cCo, va_Nw (.castable n "java/lang/Object") U
theorem va_Nw.alikeC {C T : String} {s U : State} (hvm : s.vm.Alike U.vm) (hZ : va_Nw (.castable C T) s) : va_Nw (.castable C T) U := va_tabs rfl (rfl : (s.setVm U.vm).vm = U.vm) (by rw [Cond.castable_setVm hvm]; exact hZ)
theorem cK.moved {D : va_G} {G : CGT} {u U : State} (hvm : u.vm.Alike U.vm) (h : cK D G u) : cK D G U := ⟨va_K.moved hvm h.1, fun n hn => (h.2 n hn).alikeC hvm⟩
def cP (D : va_G) (G : CGT) (A : Nat → Prop) (ad : Nat → Nat → Nat) (Z : CZ) (U : State) : Prop := cI A ad Z.2.2 ∧ cN D G ad Z U.heap ∧ cK D G U
def cQi (D : va_G) (G : CGT) (A : Nat → Prop) (ad : Nat → Nat → Nat) (r : Int32) (Z' : CZ) : Array Value → State → Outcome → State → Prop := va_Qi (fun (r' : Int32) (u : CZ) => r' = r ∧ u = Z') (fun u t => cP D G A ad u t) A
def cQv (D : va_G) (G : CGT) (A : Nat → Prop) (ad : Nat → Nat → Nat) (Z' : CZ) : Array Value → State → Outcome → State → Prop := va_Qv (fun (u : CZ) => u = Z') (fun u t => cP D G A ad u t) A
/-- a reference to the thing numbered q of kind k -/
def cQr (D : va_G) (G : CGT) (A : Nat → Prop) (ad : Nat → Nat → Nat) (k q : Nat) (Z' : CZ) : Array Value → State → Outcome → State → Prop := va_Qr (fun (u : CZ) => u = Z') (fun u a t => a = ad k q ∧ cP D G A ad u t) A
theorem cP_call {D : va_G} {G : CGT} {A : Nat → Prop} {ad : Nat → Nat → Nat} {Z : CZ} {as : List Value} : FrameBlind (va_Pc as (cP D G A ad Z)) := fun a U g mk q => ⟨q.1, q.2.1, q.2.2.1, cK.moved (u := U) (U := U.calling g mk a) (Vm.Alike.refl U.vm) q.2.2.2⟩
/-- what may be there or not: a branch -/
def op2 {α ρ : Type} (o : Option α) (a : ρ) (f : α → ρ) : ρ := match o with
  | none => a
  | some q => f q
theorem op2_ok {α ρ : Type} {o : Option α} {a : ρ} {f : α → ρ} {r : ρ} (h : op2 o a f = r) : (o = none ∧ a = r) ∨ ∃ q, o = some q ∧ f q = r := by
  cases o with
  | none => exact Or.inl ⟨rfl, h⟩
  | some q => exact Or.inr ⟨q, rfl, h⟩
/-- a call that may throw: what follows a throw of the kind c, what follows an answer -/
def cx1 {α ρ : Type} (o : Option (α ⊕ Int32)) (g : Int32 → Option ρ) (f : α → Option ρ) : Option ρ := match o with
  | some (.inl a) => f a
  | some (.inr c) => g c
  | none => none
theorem cx1_ok {α ρ : Type} {o : Option (α ⊕ Int32)} {g : Int32 → Option ρ} {f : α → Option ρ} {r : ρ} (h : cx1 o g f = some r) : (∃ a, o = some (.inl a) ∧ f a = some r) ∨ ∃ c, o = some (.inr c) ∧ g c = some r := by
  rcases o with _ | (a | c)
  · cases h
  · exact Or.inl ⟨a, rfl, h⟩
  · exact Or.inr ⟨c, rfl, h⟩
def cx2 {α β ρ : Type} (o : Option ((α ⊕ Int32) × β)) (g : Int32 → β → Option ρ) (f : α → β → Option ρ) : Option ρ := match o with
  | some (.inl a, b) => f a b
  | some (.inr c, b) => g c b
  | none => none
theorem cx2_ok {α β ρ : Type} {o : Option ((α ⊕ Int32) × β)} {g : Int32 → β → Option ρ} {f : α → β → Option ρ} {r : ρ} (h : cx2 o g f = some r) : (∃ a b, o = some (.inl a, b) ∧ f a b = some r) ∨ ∃ c b, o = some (.inr c, b) ∧ g c b = some r := by
  rcases o with _ | ⟨a | c, b⟩
  · cases h
  · exact Or.inl ⟨a, b, rfl, h⟩
  · exact Or.inr ⟨c, b, rfl, h⟩
theorem cLv4 {n : Nat → Nat} {i : Nat} (h : cLv n 4 i = true) : ¬ n (10 + i) = 0 := by
  have h2 : (decide (i < 8) && decide (0 < n (10 + i))) = true := h
  simp only [Bool.and_eq_true, decide_eq_true_eq] at h2
  omega
noncomputable def gp {α : Type} (P : Prop) (x : Option α) : Option α := @ite _ P (Classical.propDecidable P) x none
theorem gp_ok {α : Type} {P : Prop} {x : Option α} {r : α} (h : gp P x = some r) : P ∧ x = some r := by
  unfold gp at h
  by_cases hP : P
  · rw [if_pos hP] at h
    exact ⟨hP, h⟩
  · rw [if_neg hP] at h
    cases h
theorem gp_t {α : Type} {P : Prop} {x : Option α} (h : P) : gp P x = x := by
  unfold gp
  rw [if_pos h]
/-- the class of what a list holds -/
def cEC (l : Nat) : String := match l with
  | 0 => "Panyard$Pan" | 1 => "Panyard$Player" | 2 => "Panyard$Band" | 3 => "Panyard$Pan"
  | _ => "Panyard$Seat"
section CG
variable {p : Program} {l : Launch} {e : Env} {R : Room} {s : State} {m : MethodId} {args : Array Value} {below : List Frame} {meth : Method} {c : Code} {H : Heap} {locs : List Loc} {cells slots : Nat} {Q : State → Prop}
variable {cc : ByteArray} {pc : Nat} {ls : Array Slot} {rest : List Value} {D : va_G} {G : CGT} {A : Nat → Prop} {ad : Nat → Nat → Nat} {Z Z' : CZ} {H0 : Heap} {Ts : List Cond}
theorem cg_recv {k i ci : Nat} {q : vw_C} {fs : List Value} (hK : cK D G s) (hN : cN D G ad Z H) (hlv : cLv Z.2.2 k i = true) (he : cS ad G Z k i = .inr (ci, fs)) (hc : vwCl[ci]? = some q) : ∃ cell : Cell, H[ad k i]? = some cell ∧ cell.vm.isStatics = false ∧ s.vm.findClass q.1 = some cell.cls :=
  va_recv (q := q) hK.1 (nw_one hN (k := k) (i := i) hlv he) (ci := ci) (q0 := 0) hc rfl
theorem cg_preV {k i ci : Nat} {as : List Value} {q : vw_C} {fs : List Value} (hI : cI A ad Z.2.2) (hK : cK D G s) (hN : cN D G ad Z H) (hlv : cLv Z.2.2 k i = true) (he : cS ad G Z k i = .inr (ci, fs)) (hc : vwCl[ci]? = some q) : PreV s H q.1 (ad k i) (va_Pc (.ref (ad k i) :: as) (cP D G A ad Z)) as :=
  ⟨cP_call, cg_recv hK hN hlv he hc, fun U hU hW => ⟨rfl, hI, by rw [hU]; exact hN, hK.moved hW.alike⟩⟩
theorem cg_preS {as : List Value} (hI : cI A ad Z.2.2) (hK : cK D G s) (hN : cN D G ad Z H) : PreS s H (va_Pc as (cP D G A ad Z)) as :=
  ⟨cP_call, fun U hU hW => ⟨rfl, hI, by rw [hU]; exact hN, hK.moved hW.alike⟩⟩
theorem cg_calli {r : Int32} {a : Array Value} {st0 : List Value} (hr : va_Run p l e R s m args below meth c H locs cells slots 0 0 (F0 m pc ls st0) rest (cQi D G A ad r Z' a) A) (hS : va_S A H0 H locs)
    (kk : ∀ (H1 : Heap) (locs1 : List Loc), cI A ad Z'.2.2 → cN D G ad Z' H1 → va_S A H0 H1 locs1 → W p l e R s m args below meth c H1 locs1 cells slots Q (F0 m (pc + 3) ls (.int r :: rest))) : W p l e R s m args below meth c H locs cells slots Q (F0 m pc ls st0) := by
  refine va_calli hr hS (fun _ _ h => h) (fun _ h => h) (fun r' u t H1 locs1 ht hvm hw hB hz hk hS1 => ?_)
  obtain ⟨rfl, rfl⟩ := hw
  exact kk H1 locs1 hB.1 (by rw [← ht]; exact hB.2.1) hS1
theorem cg_callv {a : Array Value} {st0 : List Value} (hr : va_Run p l e R s m args below meth c H locs cells slots 0 0 (F0 m pc ls st0) rest (cQv D G A ad Z' a) A) (hS : va_S A H0 H locs)
    (kk : ∀ (H1 : Heap) (locs1 : List Loc), cI A ad Z'.2.2 → cN D G ad Z' H1 → va_S A H0 H1 locs1 → W p l e R s m args below meth c H1 locs1 cells slots Q (F0 m (pc + 3) ls rest)) : W p l e R s m args below meth c H locs cells slots Q (F0 m pc ls st0) := by
  refine va_callv hr hS (fun _ _ h => h) (fun _ h => h) (fun u t H1 locs1 ht hvm hw hB hz hk hS1 => ?_)
  obtain rfl := hw
  exact kk H1 locs1 hB.1 (by rw [← ht]; exact hB.2.1) hS1
theorem cg_callr {k q : Nat} {a : Array Value} {st0 : List Value} (hr : va_Run p l e R s m args below meth c H locs cells slots 0 0 (F0 m pc ls st0) rest (cQr D G A ad k q Z' a) A) (hS : va_S A H0 H locs)
    (kk : ∀ (H1 : Heap) (locs1 : List Loc), cI A ad Z'.2.2 → cN D G ad Z' H1 → va_S A H0 H1 locs1 → W p l e R s m args below meth c H1 locs1 cells slots Q (F0 m (pc + 3) ls (.ref (ad k q) :: rest))) : W p l e R s m args below meth c H locs cells slots Q (F0 m pc ls st0) := by
  refine va_callr hr hS (fun _ _ h => h) (fun _ h => h) (fun u ra t H1 locs1 ht hvm hw hB hz hk hS1 => ?_)
  obtain rfl := hw
  obtain ⟨rfl, hB⟩ := hB
  exact kk H1 locs1 hB.1 (by rw [← ht]; exact hB.2.1) hS1
theorem cg_endi {rv v : Int32} {Z1 : CZ} (h : some (rv, Z1) = some (v, Z')) (hI : cI A ad Z1.2.2) (hK : cK D G s) (hN : cN D G ad Z1 H) (hS : va_S A s.heap H locs) (t : State) (ht : t.heap = H) (hW : s.WarmedH t.vm) : cQi D G A ad v Z' args s (.returned (some (.int rv))) t := by
  cases h
  exact ⟨⟨_, _, rfl, ⟨rfl, rfl⟩, hI, by rw [ht]; exact hN, hK.moved hW.alike⟩, hS.F ht⟩
theorem cg_endr {rv v : Int32} (h : some rv = some v) (hI : cI A ad Z.2.2) (hK : cK D G s) (hN : cN D G ad Z H) (hS : va_S A s.heap H locs) (t : State) (ht : t.heap = H) (hW : s.WarmedH t.vm) : cQi D G A ad v Z args s (.returned (some (.int rv))) t := by
  cases h
  exact ⟨⟨_, _, rfl, ⟨rfl, rfl⟩, hI, by rw [ht]; exact hN, hK.moved hW.alike⟩, hS.F ht⟩
theorem cg_endv {Z1 : CZ} (h : some Z1 = some Z') (hI : cI A ad Z1.2.2) (hK : cK D G s) (hN : cN D G ad Z1 H) (hS : va_S A s.heap H locs) (t : State) (ht : t.heap = H) (hW : s.WarmedH t.vm) : cQv D G A ad Z' args s (.returned none) t := by
  cases h
  exact ⟨⟨_, rfl, rfl, hI, by rw [ht]; exact hN, hK.moved hW.alike⟩, hS.F ht⟩
theorem cg_endvr (hI : cI A ad Z.2.2) (hK : cK D G s) (hN : cN D G ad Z H) (hS : va_S A s.heap H locs) (t : State) (ht : t.heap = H) (hW : s.WarmedH t.vm) : cQv D G A ad Z args s (.returned none) t :=
  ⟨⟨_, rfl, rfl, hI, by rw [ht]; exact hN, hK.moved hW.alike⟩, hS.F ht⟩
theorem ne_toInt {x : Int32} {n : Int} (y : Int32) (hy : y.toInt = n) (h : ¬ x = y) : x.toInt ≠ n := fun e => h (Int32.toInt_inj.mp (e.trans hy.symm))
theorem cg_endq {k q q' : Nat} (h : some q = some q') (hI : cI A ad Z.2.2) (hK : cK D G s) (hN : cN D G ad Z H) (hS : va_S A s.heap H locs) (t : State) (ht : t.heap = H) (hW : s.WarmedH t.vm) : cQr D G A ad k q' Z args s (.returned (some (.ref (ad k q)))) t := by
  cases h
  exact ⟨⟨_, _, rfl, rfl, rfl, hI, by rw [ht]; exact hN, hK.moved hW.alike⟩, hS.F ht⟩
theorem cg_endqw {k q q' : Nat} {Z1 : CZ} (h : some (q, Z1) = some (q', Z')) (hI : cI A ad Z1.2.2) (hK : cK D G s) (hN : cN D G ad Z1 H) (hS : va_S A s.heap H locs) (t : State) (ht : t.heap = H) (hW : s.WarmedH t.vm) : cQr D G A ad k q' Z' args s (.returned (some (.ref (ad k q)))) t := by
  cases h
  exact ⟨⟨_, _, rfl, rfl, rfl, hI, by rw [ht]; exact hN, hK.moved hW.alike⟩, hS.F ht⟩
theorem cg_get {own C : String} {T : u_T} {N ci index : Nat} {ki ii : Nat} {fs : List Value} (hx : p.tables.exec = Jvm.exec) (hb : c.code = cc) (hts : ∀ w ∈ Ts, w.before args s = true) (hin : ∀ w ∈ u_ws C T N, w ∈ Ts) (hown : s.vm.findClass own = some m.cls) (hK : cK D G s) (hN : cN D G ad Z H) (hlv : cLv Z.2.2 ki ii = true) (he : cS ad G Z ki ii = .inr (ci, fs)) (hc : vwCl[ci]? = some (C, T, N)) (k : Nat) (hk : k < N) (hlink : (Cond.fieldLink own index C (T k).2.1 (T k).2.2.1).before args s = true) (hnm : (T k).1 = C) {v : Value} (hv : fs[k]? = some v) (hdg : decode cc pc = .ok (.getfield index, 3))
    (kk : W p l e R s m args below meth c H locs cells slots Q (F0 m (pc + 3) ls (v :: rest))) : W p l e R s m args below meth c H locs cells slots Q (F0 m pc ls (.ref (ad ki ii) :: rest)) :=
  va_get (D := D) (cl := vwCl) hx hb hts hin hown hK.1 (nw_one hN (k := ki) (i := ii) hlv he) 0 rfl hc k hk hlink (by rw [hnm]; exact fun _ h => h) hv hdg kk
theorem cg_put {own C : String} {T : u_T} {N ci index : Nat} {ki ii : Nat} {fs : List Value} {x : Int32} {row : Nat → Int32} {ty0 : Nat → FieldType} {ty : FieldType} (hx : p.tables.exec = Jvm.exec) (hb : c.code = cc) (hts : ∀ w ∈ Ts, w.before args s = true) (hin : ∀ w ∈ u_ws C T N, w ∈ Ts) (hty : ∀ k, k < N → parseFieldDescriptor (T k).2.2.1 = some (ty0 k)) (hnm : ∀ a, a < N → ∀ b, b < N → a ≠ b → (T a).2.1 ≠ (T b).2.1) (hown : s.vm.findClass own = some m.cls) (hI : cI A ad Z.2.2) (hK : cK D G s) (hN : cN D G ad Z H) (hS : va_S A H0 H locs) (hlv : cLv Z.2.2 ki ii = true) (he : cS ad G Z ki ii = .inr (ci, fs)) (hc : vwCl[ci]? = some (C, T, N)) (k : Nat) (hk : k < N) (hl : k < fs.length) (hlink : (Cond.fieldLink own index C (T k).2.1 (T k).2.2.1).before args s = true) (hC : (T k).1 = C) (hfin : (T k).2.2.2 = false) (hd : parseFieldDescriptor (T k).2.2.1 = some ty) (hn : narrow ty (.int x) = .int x) (hfit : fits ty (.int x) = true)
    (hset : cC ad G ki ii row (Z.2.1 ki ii) (Z.2.2 (10 + ii)) = .inr (ci, fs.set k (.int x))) (hdg : decode cc pc = .ok (.putfield index, 3)) (hZ : Z' = cuI Z ki ii row)
    (kk : ∀ (H1 : Heap) (locs1 : List Loc), cI A ad Z'.2.2 → cN D G ad Z' H1 → va_S A H0 H1 locs1 → W p l e R s m args below meth c H1 locs1 cells slots Q (F0 m (pc + 3) ls rest)) : W p l e R s m args below meth c H locs cells slots Q (F0 m pc ls (.int x :: .ref (ad ki ii) :: rest)) := by
  subst hZ
  exact nw_put (D := D) (cl := vwCl) (ad := ad) (S := cS ad G Z) (S' := cS ad G (cuI Z ki ii row)) hx hb hts hin ty0 hty hnm hown hK.1 hN hI hS (ki := ki) (ii := ii) hlv he hc k hk hlink (by rw [hC]; exact fun _ h => h) hfin hd hn hfit hl (cS_I.trans hset) (fun k' i' _ h => cS_In k' i' h) hdg (fun H1 locs1 hN1 hS1 => kk H1 locs1 hI hN1 hS1)
theorem cg_putq {own C : String} {T : u_T} {N ci index : Nat} {ki ii : Nat} {fs : List Value} {v : Value} {row : Nat → Option Nat} {ty0 : Nat → FieldType} {ty : FieldType} (hx : p.tables.exec = Jvm.exec) (hb : c.code = cc) (hts : ∀ w ∈ Ts, w.before args s = true) (hin : ∀ w ∈ u_ws C T N, w ∈ Ts) (hty : ∀ k, k < N → parseFieldDescriptor (T k).2.2.1 = some (ty0 k)) (hnm : ∀ a, a < N → ∀ b, b < N → a ≠ b → (T a).2.1 ≠ (T b).2.1) (hown : s.vm.findClass own = some m.cls) (hI : cI A ad Z.2.2) (hK : cK D G s) (hN : cN D G ad Z H) (hS : va_S A H0 H locs) (hlv : cLv Z.2.2 ki ii = true) (he : cS ad G Z ki ii = .inr (ci, fs)) (hc : vwCl[ci]? = some (C, T, N)) (k : Nat) (hk : k < N) (hl : k < fs.length) (hlink : (Cond.fieldLink own index C (T k).2.1 (T k).2.2.1).before args s = true) (hC : (T k).1 = C) (hfin : (T k).2.2.2 = false) (hd : parseFieldDescriptor (T k).2.2.1 = some ty) (hn : narrow ty v = v) (hfit : fits ty v = true)
    (hset : cC ad G ki ii (Z.1 ki ii) row (Z.2.2 (10 + ii)) = .inr (ci, fs.set k v)) (hdg : decode cc pc = .ok (.putfield index, 3)) (hZ : Z' = cuR Z ki ii row)
    (kk : ∀ (H1 : Heap) (locs1 : List Loc), cI A ad Z'.2.2 → cN D G ad Z' H1 → va_S A H0 H1 locs1 → W p l e R s m args below meth c H1 locs1 cells slots Q (F0 m (pc + 3) ls rest)) : W p l e R s m args below meth c H locs cells slots Q (F0 m pc ls (v :: .ref (ad ki ii) :: rest)) := by
  subst hZ
  exact nw_put (D := D) (cl := vwCl) (ad := ad) (S := cS ad G Z) (S' := cS ad G (cuR Z ki ii row)) hx hb hts hin ty0 hty hnm hown hK.1 hN hI hS (ki := ki) (ii := ii) hlv he hc k hk hlink (by rw [hC]; exact fun _ h => h) hfin hd hn hfit hl (cS_R.trans hset) (fun k' i' _ h => cS_Rn k' i' h) hdg (fun H1 locs1 hN1 hS1 => kk H1 locs1 hI hN1 hS1)
theorem cg_ild {ki ii n : Nat} {f : Nat → Int32} {i : Int32} (hx : p.tables.exec = Jvm.exec) (hb : c.code = cc) (hK : cK D G s) (hN : cN D G ad Z H) (hlv : cLv Z.2.2 ki ii = true) (he : cS ad G Z ki ii = .inl (G.1, n, .inl f)) (hin : vp_in i n) (hdg : decode cc pc = .ok (.iaload, 1))
    (kk : W p l e R s m args below meth c H locs cells slots Q (F0 m (pc + 1) ls (.int (f i.toNatClampNeg) :: rest))) : W p l e R s m args below meth c H locs cells slots Q (F0 m pc ls (.int i :: .ref (ad ki ii) :: rest)) :=
  va_iald (D := D) (cl := vwCl) hx hb hK.1 (nw_one hN (k := ki) (i := ii) hlv he) 0 0 rfl rfl hin hdg kk
theorem cg_zld {ki ii n : Nat} {f : Nat → Int32} {i : Int32} (hx : p.tables.exec = Jvm.exec) (hb : c.code = cc) (hK : cK D G s) (hN : cN D G ad Z H) (hlv : cLv Z.2.2 ki ii = true) (he : cS ad G Z ki ii = .inl (G.2.1, n, .inl f)) (hin : vp_in i n) (hdg : decode cc pc = .ok (.baload, 1))
    (kk : W p l e R s m args below meth c H locs cells slots Q (F0 m (pc + 1) ls (.int (f i.toNatClampNeg) :: rest))) : W p l e R s m args below meth c H locs cells slots Q (F0 m pc ls (.int i :: .ref (ad ki ii) :: rest)) :=
  va_zald (D := D) (cl := vwCl) hx hb hK.1 (nw_one hN (k := ki) (i := ii) hlv he) 0 1 rfl rfl hin hdg kk
theorem cg_ald {ki ii n : Nat} {f : Nat → Option Nat} {i : Int32} {b : Nat} (hx : p.tables.exec = Jvm.exec) (hb : c.code = cc) (hK : cK D G s) (hN : cN D G ad Z H) (hlv : cLv Z.2.2 ki ii = true) (he : cS ad G Z ki ii = .inl (G.2.2.2.1, n, .inr (.inr (.inr (.inr f))))) (hin : vp_in i n) (hv : f i.toNatClampNeg = some b) (hdg : decode cc pc = .ok (.aaload, 1))
    (kk : W p l e R s m args below meth c H locs cells slots Q (F0 m (pc + 1) ls (.ref b :: rest))) : W p l e R s m args below meth c H locs cells slots Q (F0 m pc ls (.int i :: .ref (ad ki ii) :: rest)) := by
  have hlt : i.toNatClampNeg < n := Nat.not_le.mp fun q => hin (Or.inr q)
  have hP := nw_one hN (k := ki) (i := ii) hlv he
  refine W.aald (v := va_rf (f i.toNatClampNeg)) (ty := .array .int) hx hb (hP 0 _ rfl) ((hK.1.2 3 _ rfl).1 n (fun j => va_rf (f j))) rfl (fun q => by cases q) (by show ¬ (i < 0 ∨ (arrV _ _ _).slots.size ≤ _); rw [arrV_size]; exact hin) (by show (arrV _ _ _).slots[_]? = _; rw [arrV_read _ _ hlt]) rfl rfl hdg ?_
  rw [hv]
  exact kk
theorem cg_aldl {i : Int32} {lx b : Nat} (hx : p.tables.exec = Jvm.exec) (hb : c.code = cc) (hK : cK D G s) (hN : cN D G ad Z H) (hlv : cLv Z.2.2 4 lx = true) (hin : vp_in i (Z.2.2 (10 + lx))) (hv : Z.2.1 4 lx i.toNatClampNeg = some b) (hdg : decode cc pc = .ok (.aaload, 1))
    (kk : W p l e R s m args below meth c H locs cells slots Q (F0 m (pc + 1) ls (.ref (ad (cEk lx) b) :: rest))) : W p l e R s m args below meth c H locs cells slots Q (F0 m pc ls (.int i :: .ref (ad 4 lx) :: rest)) := by
  refine va_aldq (D := D) (cl := vwCl) (C := "java/lang/Object") (f := fun j => (Z.2.1 4 lx j).map (ad (cEk lx))) hx hb hK.1 (nw_one hN (k := 4) (i := lx) hlv rfl) 0 2 rfl rfl hin hdg ?_
  have hv2 : va_rf ((Z.2.1 4 lx i.toNatClampNeg).map (ad (cEk lx))) = .ref (ad (cEk lx) b) := by rw [hv]; rfl
  rw [hv2]
  exact kk
theorem cg_alen {ki ii n : Nat} {f : Nat → Int32} {v : Int32} (hx : p.tables.exec = Jvm.exec) (hb : c.code = cc) (hK : cK D G s) (hN : cN D G ad Z H) (hlv : cLv Z.2.2 ki ii = true) (he : cS ad G Z ki ii = .inl (G.1, n, .inl f)) (hv : Int32.ofNat n = v) (hdg : decode cc pc = .ok (.arraylength, 1))
    (kk : W p l e R s m args below meth c H locs cells slots Q (F0 m (pc + 1) ls (.int v :: rest))) : W p l e R s m args below meth c H locs cells slots Q (F0 m pc ls (.ref (ad ki ii) :: rest)) :=
  va_alen (D := D) (cl := vwCl) hx hb hK.1 (nw_one hN (k := ki) (i := ii) hlv he) 0 0 rfl rfl hv hdg kk
theorem cg_ist {ki ii n : Nat} {f : Nat → Int32} {i x : Int32} (hx : p.tables.exec = Jvm.exec) (hb : c.code = cc) (hI : cI A ad Z.2.2) (hK : cK D G s) (hN : cN D G ad Z H) (hS : va_S A H0 H locs) (hlv : cLv Z.2.2 ki ii = true) (he : cS ad G Z ki ii = .inl (G.1, n, .inl f)) (hin : vp_in i n)
    (hset : cC ad G ki ii (upd f i.toNatClampNeg x) (Z.2.1 ki ii) (Z.2.2 (10 + ii)) = .inl (G.1, n, .inl (upd f i.toNatClampNeg x))) (hdg : decode cc pc = .ok (.iastore, 1)) (hZ : Z' = cuI Z ki ii (upd f i.toNatClampNeg x))
    (kk : ∀ (H1 : Heap) (locs1 : List Loc), cI A ad Z'.2.2 → cN D G ad Z' H1 → va_S A H0 H1 locs1 → W p l e R s m args below meth c H1 locs1 cells slots Q (F0 m (pc + 1) ls rest)) : W p l e R s m args below meth c H locs cells slots Q (F0 m pc ls (.int x :: .int i :: .ref (ad ki ii) :: rest)) := by
  subst hZ
  exact nw_iast (D := D) (cl := vwCl) (ad := ad) (S := cS ad G Z) (S' := cS ad G (cuI Z ki ii (upd f i.toNatClampNeg x))) hx hb hK.1 hN hI hS (ki := ki) (ii := ii) hlv 0 he rfl hin (cS_I.trans hset) (fun k' i' _ h => cS_In k' i' h) hdg (fun H1 locs1 hN1 hS1 => kk H1 locs1 hI hN1 hS1)
theorem cg_zst {ki ii n : Nat} {f : Nat → Int32} {i x : Int32} (hx : p.tables.exec = Jvm.exec) (hb : c.code = cc) (hI : cI A ad Z.2.2) (hK : cK D G s) (hN : cN D G ad Z H) (hS : va_S A H0 H locs) (hlv : cLv Z.2.2 ki ii = true) (he : cS ad G Z ki ii = .inl (G.2.1, n, .inl f)) (hin : vp_in i n)
    (hset : cC ad G ki ii (upd f i.toNatClampNeg (vp_nar .boolean x)) (Z.2.1 ki ii) (Z.2.2 (10 + ii)) = .inl (G.2.1, n, .inl (upd f i.toNatClampNeg (vp_nar .boolean x)))) (hdg : decode cc pc = .ok (.bastore, 1)) (hZ : Z' = cuI Z ki ii (upd f i.toNatClampNeg (vp_nar .boolean x)))
    (kk : ∀ (H1 : Heap) (locs1 : List Loc), cI A ad Z'.2.2 → cN D G ad Z' H1 → va_S A H0 H1 locs1 → W p l e R s m args below meth c H1 locs1 cells slots Q (F0 m (pc + 1) ls rest)) : W p l e R s m args below meth c H locs cells slots Q (F0 m pc ls (.int x :: .int i :: .ref (ad ki ii) :: rest)) := by
  subst hZ
  exact nw_zast (D := D) (cl := vwCl) (ad := ad) (S := cS ad G Z) (S' := cS ad G (cuI Z ki ii (upd f i.toNatClampNeg (vp_nar .boolean x)))) hx hb hK.1 hN hI hS (ki := ki) (ii := ii) hlv 1 he rfl hin (cS_I.trans hset) (fun k' i' _ h => cS_In k' i' h) hdg (fun H1 locs1 hN1 hS1 => kk H1 locs1 hI hN1 hS1)
end CG
/-! Methods that may throw. -/
def exN (c : Int32) : String := if c = 1 then "java/lang/IndexOutOfBoundsException" else if c = 2 then "java/lang/IllegalArgumentException" else "java/lang/IllegalStateException"
def cStr : List (Nat × String) := [(163, "the player has no pan"), (260, "there is no such thing"), (265, "out of its range"), (268, "not as things stand")]
def cDe : List String := ["java/lang/RuntimeException", "java/lang/Exception", Bundle.tN]
def cCa : List String := ["java/lang/IndexOutOfBoundsException", "java/lang/IllegalArgumentException", "java/lang/IllegalStateException"]
/-- the words of a throw that no call keeps by itself -/
def cNg (X : String) : List Cond := [.declares (Bundle.initS "java/lang/RuntimeException"), .declares (Bundle.initS "java/lang/Exception"), .declares (Bundle.initS Bundle.tN), .castable X X]
/-- what a throw needs of the static fields, of the tables and of the written texts -/
def cE (A : Nat → Prop) (U : State) (H : Heap) : Prop := ((∀ n ∈ cDe, va_Nw (.declares (Bundle.initS n)) U) ∧ ∀ n ∈ cCa, va_Nw (.castable n n) U) ∧ vx_Zq Bundle.tN "UNASSIGNED_STACK" Bundle.steD A U H ∧ vx_Zq Bundle.tN "SUPPRESSED_SENTINEL" Bundle.listD A U H ∧ ∀ q ∈ cStr, ∃ a : Nat, vk_R RX6 q.1 q.2 a U
theorem cE.go {A : Nat → Prop} {s U : State} {H : Heap} {locs : List Loc} (h : cE A s s.heap) (hS : va_S A s.heap H locs) (hW : s.WarmedH U.vm) : cE A U H :=
  ⟨⟨fun n hn => (h.1.1 n hn).warmD hW, fun n hn => (h.1.2 n hn).warmC hW⟩, vx_Zq.moved hW.alike (h.2.1.kept (fun a h1 h2 => hS.2.1 a h1 h2)), vx_Zq.moved hW.alike (h.2.2.1.kept (fun a h1 h2 => hS.2.1 a h1 h2)), fun q hq => (h.2.2.2 q hq).elim (fun a ha => ⟨a, vk_R.warm hW ha⟩)⟩
def xP (D : va_G) (G : CGT) (A : Nat → Prop) (ad : Nat → Nat → Nat) (Z : CZ) (U : State) : Prop := cP D G A ad Z U ∧ cE A U U.heap
theorem xP_call {D : va_G} {G : CGT} {A : Nat → Prop} {ad : Nat → Nat → Nat} {Z : CZ} {as : List Value} : FrameBlind (va_Pc as (xP D G A ad Z)) := fun a U g mk q => ⟨q.1, ⟨q.2.1.1, q.2.1.2.1, cK.moved (u := U) (U := U.calling g mk a) (Vm.Alike.refl U.vm) q.2.1.2.2⟩, ⟨fun n hn => va_Nw.same (u := U) (U := U.calling g mk a) rfl rfl (q.2.2.1.1 n hn), fun n hn => va_Nw.same (u := U) (U := U.calling g mk a) rfl rfl (q.2.2.1.2 n hn)⟩, vx_Zq.moved (u := U) (U := U.calling g mk a) (Vm.Alike.refl U.vm) q.2.2.2.1, vx_Zq.moved (u := U) (U := U.calling g mk a) (Vm.Alike.refl U.vm) q.2.2.2.2.1, fun w hw => (q.2.2.2.2.2 w hw).elim (fun b hb => ⟨b, vk_R.same (u := U) (U := U.calling g mk a) rfl hb⟩)⟩
def xQi (D : va_G) (G : CGT) (A : Nat → Prop) (ad : Nat → Nat → Nat) (rz : Int32 ⊕ Int32) (Z' : CZ) : Array Value → State → Outcome → State → Prop := va_Qi (fun (r' : Int32) (u : CZ) => rz = .inl r' ∧ u = Z') (fun u t => cP D G A ad u t) A
def xQv (D : va_G) (G : CGT) (A : Nat → Prop) (ad : Nat → Nat → Nat) (rz : Unit ⊕ Int32) (Z' : CZ) : Array Value → State → Outcome → State → Prop := va_Qv (fun (u : CZ) => rz = .inl () ∧ u = Z') (fun u t => cP D G A ad u t) A
def xQr (D : va_G) (G : CGT) (A : Nat → Prop) (ad : Nat → Nat → Nat) (k : Nat) (rz : Nat ⊕ Int32) (Z' : CZ) : Array Value → State → Outcome → State → Prop := va_Qr (fun (u : CZ) => u = Z') (fun u a t => (∃ q, rz = .inl q ∧ a = ad k q) ∧ cP D G A ad u t) A
def xX {α : Type} (D : va_G) (G : CGT) (A : Nat → Prop) (ad : Nat → Nat → Nat) (rz : α ⊕ Int32) (Z' : CZ) : String → State → State → Prop := vx_X (fun u : CZ => u = Z') (fun E u t => (∃ c : Int32, rz = .inr c ∧ E = exN c) ∧ cP D G A ad u t) A
section XG
variable {p : Program} {l : Launch} {e : Env} {R : Room} {s : State} {m : MethodId} {args : Array Value} {below : List Frame} {meth : Method} {c : Code} {H : Heap} {locs : List Loc} {cells slots mc ms M N : Nat} {Q : State → Prop}
variable {cc : ByteArray} {pc : Nat} {ls : Array Slot} {rest : List Value} {D : va_G} {G : CGT} {A : Nat → Prop} {ad : Nat → Nat → Nat} {Z Z' Zf : CZ} {H0 : Heap} {Ts : List Cond} {a : Array Value} {st0 : List Value} {Qc : Array Value → State → Outcome → State → Prop}
theorem xg_preV {k i ci : Nat} {as : List Value} {q : vw_C} {fs : List Value} (hI : cI A ad Z.2.2) (hK : cK D G s) (hN : cN D G ad Z H) (hE : cE A s s.heap) (hS : va_S A s.heap H locs) (hlv : cLv Z.2.2 k i = true) (he : cS ad G Z k i = .inr (ci, fs)) (hc : vwCl[ci]? = some q) : PreV s H q.1 (ad k i) (va_Pc (.ref (ad k i) :: as) (xP D G A ad Z)) as :=
  ⟨xP_call, cg_recv hK hN hlv he hc, fun U hU hW => ⟨rfl, ⟨hI, by rw [hU]; exact hN, hK.moved hW.alike⟩, by rw [hU]; exact hE.go hS hW⟩⟩
theorem xg_preS {as : List Value} (hI : cI A ad Z.2.2) (hK : cK D G s) (hN : cN D G ad Z H) (hE : cE A s s.heap) (hS : va_S A s.heap H locs) : PreS s H (va_Pc as (xP D G A ad Z)) as :=
  ⟨xP_call, fun U hU hW => ⟨rfl, ⟨hI, by rw [hU]; exact hN, hK.moved hW.alike⟩, by rw [hU]; exact hE.go hS hW⟩⟩
theorem xg_calli {v : Int32} (hr : vx_Run p l e R s m args below meth c H locs cells slots mc ms (F0 m pc ls st0) rest (xQi D G A ad (.inl v) Z' a) (xX D G A ad (.inl v : Int32 ⊕ Int32) Z') A) (hS : va_S A H0 H locs)
    (kk : ∀ (H1 : Heap) (locs1 : List Loc), cI A ad Z'.2.2 → cN D G ad Z' H1 → va_S A H0 H1 locs1 → W p l e R s m args below meth c H1 locs1 (cells + mc) (slots + ms) Q (F0 m (pc + 3) ls (.int v :: rest))) : W p l e R s m args below meth c H locs cells slots Q (F0 m pc ls st0) := by
  refine vx_calli hr hS (fun _ _ h => h) (fun _ h => h) (fun _ _ h => h) (fun E ce q9 u t H1 locs1 ht hvm hp hB => ?_) (fun r' u t H1 locs1 ht hvm hw hB hz hk hS1 => ?_)
  · obtain ⟨⟨c9, h9, -⟩, -⟩ := hB
    cases h9
  · obtain ⟨h9, rfl⟩ := hw
    cases h9
    exact kk H1 locs1 hB.1 (by rw [← ht]; exact hB.2.1) hS1
theorem xg_callv (hr : vx_Run p l e R s m args below meth c H locs cells slots mc ms (F0 m pc ls st0) rest (xQv D G A ad (.inl ()) Z' a) (xX D G A ad (.inl () : Unit ⊕ Int32) Z') A) (hS : va_S A H0 H locs)
    (kk : ∀ (H1 : Heap) (locs1 : List Loc), cI A ad Z'.2.2 → cN D G ad Z' H1 → va_S A H0 H1 locs1 → W p l e R s m args below meth c H1 locs1 (cells + mc) (slots + ms) Q (F0 m (pc + 3) ls rest)) : W p l e R s m args below meth c H locs cells slots Q (F0 m pc ls st0) := by
  refine vx_callv hr hS (fun _ _ h => h) (fun _ h => h) (fun _ _ h => h) (fun E ce q9 u t H1 locs1 ht hvm hp hB => ?_) (fun u t H1 locs1 ht hvm hw hB hz hk hS1 => ?_)
  · obtain ⟨⟨c9, h9, -⟩, -⟩ := hB
    cases h9
  · obtain ⟨h9, rfl⟩ := hw
    exact kk H1 locs1 hB.1 (by rw [← ht]; exact hB.2.1) hS1
theorem vx_callr' {S SX : Type} {post : S → Prop} {px : SX → Prop} {B : S → Nat → State → Prop} {BX : String → SX → State → Prop} {A1 A0 AX free : Nat → Prop} (hr : vx_Run p l e R s m args below meth c H locs cells slots mc ms (F0 m pc ls st0) rest (va_Qr post B A1 a) (vx_X px BX AX) free) (hS : va_S A0 H0 H locs) (hA : ∀ q, q < H.size → A1 q → A0 q) (hf : ∀ q, free q → A0 q) (hAX : ∀ q, q < H.size → AX q → A0 q)
    (kx : ∀ (E : String) (ce : Cell) (q9 : Addr) (u : SX) (t : State) (H1 : Heap) (locs1 : List Loc), t.heap = H1 → s.vm.Alike t.vm → px u → BX E u t → H.size ≤ H1.size → (∀ q : Nat, q < H.size → ¬ AX q → H1[q]? = H[q]?) → va_S A0 H0 H1 locs1 → H1[q9]? = some ce → ce.vm = .none → s.vm.findClass E = some ce.cls → vx_W p l e R s m args below meth c H1 locs1 (cells + mc) (slots + ms) Q (F0 m pc ls rest) q9)
    (kk : ∀ (u : S) (ra : Nat) (t : State) (H1 : Heap) (locs1 : List Loc), t.heap = H1 → s.vm.Alike t.vm → post u → B u ra t → H.size ≤ H1.size → (∀ q : Nat, q < H.size → ¬ A1 q → H1[q]? = H[q]?) → va_S A0 H0 H1 locs1 → W p l e R s m args below meth c H1 locs1 (cells + mc) (slots + ms) Q (F0 m (pc + 3) ls (.ref ra :: rest))) : W p l e R s m args below meth c H locs cells slots Q (F0 m pc ls st0) := by
  intro T hT X
  rcases hr T hT X with ⟨v, st₀, t, T', L, h0, X', hL, e1, e2, ⟨⟨u, ra, hv, hp, hb⟩, hF⟩, st⟩ | ⟨q, st₀, t, T', L, E, ce, h0, X', hL, e1, e2, ⟨u, hp, hb, hF⟩, hce, hcv, hcl, st⟩
  · cases hv
    obtain ⟨k1, k2, k3⟩ := vx_keep h0 e1 hS hA hf hL hF
    obtain ⟨t2, a1, b1⟩ := kk u ra t T'.heap (locs ++ L) e1.symm (by rw [← e2]; exact X'.warmed.alike) hp hb k1 k2 k3 T' rfl X'
    exact ⟨t2, st t2 a1, b1⟩
  · obtain ⟨k1, k2, k3⟩ := vx_keep h0 e1 hS hAX hf hL hF
    obtain ⟨t2, a1, b1⟩ := kx E ce q u t T'.heap (locs ++ L) e1.symm (by rw [← e2]; exact X'.warmed.alike) hp hb k1 k2 k3 (by rw [e1]; exact hce) hcv hcl T' rfl X'
    exact ⟨t2, st.trans a1, b1⟩
theorem xg_callr {k q : Nat} (hr : vx_Run p l e R s m args below meth c H locs cells slots mc ms (F0 m pc ls st0) rest (xQr D G A ad k (.inl q) Z' a) (xX D G A ad (.inl q : Nat ⊕ Int32) Z') A) (hS : va_S A H0 H locs)
    (kk : ∀ (H1 : Heap) (locs1 : List Loc), cI A ad Z'.2.2 → cN D G ad Z' H1 → va_S A H0 H1 locs1 → W p l e R s m args below meth c H1 locs1 (cells + mc) (slots + ms) Q (F0 m (pc + 3) ls (.ref (ad k q) :: rest))) : W p l e R s m args below meth c H locs cells slots Q (F0 m pc ls st0) := by
  refine vx_callr' hr hS (fun _ _ h => h) (fun _ h => h) (fun _ _ h => h) (fun E ce q9 u t H1 locs1 ht hvm hp hB => ?_) (fun u ra t H1 locs1 ht hvm hw hB hz hk hS1 => ?_)
  · obtain ⟨⟨c9, h9, -⟩, -⟩ := hB
    cases h9
  · obtain rfl := hw
    obtain ⟨⟨q1, h9, rfl⟩, hB⟩ := hB
    cases h9
    exact kk H1 locs1 hB.1 (by rw [← ht]; exact hB.2.1) hS1
theorem xg_up {α β : Type} {cd : Int32} {u : CZ} {t : State} {H1 : Heap} {locs1 : List Loc} {E : String} {ce : Cell} {q9 : Addr} {rz : α ⊕ Int32} {rb : β ⊕ Int32} (hrb : rb = .inr cd) (hz : rz = .inr cd) (hZf : Zf = Z') (hexc : ∀ x ∈ c.exceptionTable.toList, False) (hlocks : meth.locks = false) (hc : cells + mc ≤ M) (hs : slots + ms ≤ N) (ht : t.heap = H1) (hvm : s.vm.Alike t.vm) (hp : u = Z') (hB : (∃ c : Int32, rb = .inr c ∧ E = exN c) ∧ cP D G A ad u t) (hS1 : va_S A s.heap H1 locs1) (hce : H1[q9]? = some ce) (hcv : ce.vm = .none) (hcl : s.vm.findClass E = some ce.cls) : vx_W p l e R s m args below meth c H1 locs1 (cells + mc) (slots + ms) (vx_MQ below Qc (xX D G A ad rz Zf) args s M N A) (F0 m pc ls rest) q9 := by
  subst hrb hz hZf hp
  obtain ⟨⟨c9, h9, h8⟩, hB⟩ := hB
  cases h9
  refine vx_out (fun x hx => (hexc x hx).elim) hlocks hce hcv hcl (fun t1 ht1 hvm1 => ⟨_, rfl, ⟨⟨_, rfl, h8⟩, hB.1, by rw [ht1, ← ht]; exact hB.2.1, ?_⟩, hS1.F ht1⟩) hS1.2.2 hc hs
  exact cK.moved (hvm.symm.trans hvm1) hB.2.2
theorem xg_thri {cd : Int32} {α : Type} {rz : α ⊕ Int32} (hr : vx_Run p l e R s m args below meth c H locs cells slots mc ms (F0 m pc ls st0) rest (xQi D G A ad (.inr cd) Z' a) (xX D G A ad (.inr cd : Int32 ⊕ Int32) Z') A) (hz : rz = .inr cd) (hZf : Zf = Z') (hexc : ∀ x ∈ c.exceptionTable.toList, False) (hlocks : meth.locks = false) (hS : va_S A s.heap H locs) (hc : cells + mc ≤ M) (hs : slots + ms ≤ N) : W p l e R s m args below meth c H locs cells slots (vx_MQ below Qc (xX D G A ad rz Zf) args s M N A) (F0 m pc ls st0) := by
  refine vx_calli hr hS (fun _ _ h => h) (fun _ h => h) (fun _ _ h => h) (fun E ce q9 u t H1 locs1 ht hvm hp hB _ _ hS1 hce hcv hcl => xg_up rfl hz hZf hexc hlocks hc hs ht hvm hp hB hS1 hce hcv hcl) (fun r' u t H1 locs1 ht hvm hw hB hz hk hS1 => ?_)
  cases hw.1
theorem xg_thrv {cd : Int32} {α : Type} {rz : α ⊕ Int32} (hr : vx_Run p l e R s m args below meth c H locs cells slots mc ms (F0 m pc ls st0) rest (xQv D G A ad (.inr cd) Z' a) (xX D G A ad (.inr cd : Unit ⊕ Int32) Z') A) (hz : rz = .inr cd) (hZf : Zf = Z') (hexc : ∀ x ∈ c.exceptionTable.toList, False) (hlocks : meth.locks = false) (hS : va_S A s.heap H locs) (hc : cells + mc ≤ M) (hs : slots + ms ≤ N) : W p l e R s m args below meth c H locs cells slots (vx_MQ below Qc (xX D G A ad rz Zf) args s M N A) (F0 m pc ls st0) := by
  refine vx_callv hr hS (fun _ _ h => h) (fun _ h => h) (fun _ _ h => h) (fun E ce q9 u t H1 locs1 ht hvm hp hB _ _ hS1 hce hcv hcl => xg_up rfl hz hZf hexc hlocks hc hs ht hvm hp hB hS1 hce hcv hcl) (fun u t H1 locs1 ht hvm hw hB hz hk hS1 => ?_)
  cases hw.1
theorem xg_thrr {cd : Int32} {k : Nat} {α : Type} {rz : α ⊕ Int32} (hr : vx_Run p l e R s m args below meth c H locs cells slots mc ms (F0 m pc ls st0) rest (xQr D G A ad k (.inr cd) Z' a) (xX D G A ad (.inr cd : Nat ⊕ Int32) Z') A) (hz : rz = .inr cd) (hZf : Zf = Z') (hexc : ∀ x ∈ c.exceptionTable.toList, False) (hlocks : meth.locks = false) (hS : va_S A s.heap H locs) (hc : cells + mc ≤ M) (hs : slots + ms ≤ N) : W p l e R s m args below meth c H locs cells slots (vx_MQ below Qc (xX D G A ad rz Zf) args s M N A) (F0 m pc ls st0) := by
  refine vx_callr' hr hS (fun _ _ h => h) (fun _ h => h) (fun _ _ h => h) (fun E ce q9 u t H1 locs1 ht hvm hp hB _ _ hS1 hce hcv hcl => xg_up rfl hz hZf hexc hlocks hc hs ht hvm hp hB hS1 hce hcv hcl) (fun u ra t H1 locs1 ht hvm hw hB hz hk hS1 => ?_)
  obtain ⟨⟨q1, h9, -⟩, -⟩ := hB
  cases h9
theorem xg_endi {rv : Int32} {rz : Int32 ⊕ Int32} {Z1 : CZ} (h : some (Sum.inl rv, Z1) = some (rz, Zf)) (hI : cI A ad Z1.2.2) (hK : cK D G s) (hN : cN D G ad Z1 H) (hS : va_S A s.heap H locs) (t : State) (ht : t.heap = H) (hW : s.WarmedH t.vm) : xQi D G A ad rz Zf args s (.returned (some (.int rv))) t := by
  cases h
  exact ⟨⟨_, _, rfl, ⟨rfl, rfl⟩, hI, by rw [ht]; exact hN, hK.moved hW.alike⟩, hS.F ht⟩
theorem xg_endr {rv : Int32} {rz : Int32 ⊕ Int32} (h : some (Sum.inl rv) = some rz) (hI : cI A ad Z.2.2) (hK : cK D G s) (hN : cN D G ad Z H) (hS : va_S A s.heap H locs) (t : State) (ht : t.heap = H) (hW : s.WarmedH t.vm) : xQi D G A ad rz Z args s (.returned (some (.int rv))) t := by
  cases h
  exact ⟨⟨_, _, rfl, ⟨rfl, rfl⟩, hI, by rw [ht]; exact hN, hK.moved hW.alike⟩, hS.F ht⟩
theorem xg_endv {rz : Unit ⊕ Int32} {Z1 : CZ} (h : some (Sum.inl (), Z1) = some (rz, Zf)) (hI : cI A ad Z1.2.2) (hK : cK D G s) (hN : cN D G ad Z1 H) (hS : va_S A s.heap H locs) (t : State) (ht : t.heap = H) (hW : s.WarmedH t.vm) : xQv D G A ad rz Zf args s (.returned none) t := by
  cases h
  exact ⟨⟨_, rfl, ⟨rfl, rfl⟩, hI, by rw [ht]; exact hN, hK.moved hW.alike⟩, hS.F ht⟩
theorem xg_endvr {rz : Unit ⊕ Int32} (h : some (Sum.inl ()) = some rz) (hI : cI A ad Z.2.2) (hK : cK D G s) (hN : cN D G ad Z H) (hS : va_S A s.heap H locs) (t : State) (ht : t.heap = H) (hW : s.WarmedH t.vm) : xQv D G A ad rz Z args s (.returned none) t := by
  cases h
  exact ⟨⟨_, rfl, ⟨rfl, rfl⟩, hI, by rw [ht]; exact hN, hK.moved hW.alike⟩, hS.F ht⟩
theorem xg_endq {k q : Nat} {rz : Nat ⊕ Int32} (h : some (Sum.inl q) = some rz) (hI : cI A ad Z.2.2) (hK : cK D G s) (hN : cN D G ad Z H) (hS : va_S A s.heap H locs) (t : State) (ht : t.heap = H) (hW : s.WarmedH t.vm) : xQr D G A ad k rz Z args s (.returned (some (.ref (ad k q)))) t := by
  cases h
  exact ⟨⟨_, _, rfl, rfl, ⟨_, rfl, rfl⟩, hI, by rw [ht]; exact hN, hK.moved hW.alike⟩, hS.F ht⟩
/-- new X("text"), thrown here -/
theorem xg_throw {cd : Int32} {α : Type} {rz : α ⊕ Int32} {text : String} {ik is ic : Nat} (hx : p.tables.exec = Jvm.exec) (hb : c.code = cc) (hl : l.stackTraces = false) (hown : s.vm.findClass RX6 = some m.cls) (hfit : Bundle.fit (exN cd) = true)
    (hk : (Cond.classLink RX6 ik (exN cd)).before args s = true) (hini : (Cond.initialized (exN cd)).before args s = true) (hq : (is, text) ∈ cStr) (hat : ∀ w ∈ (vx_atS RX6 ic (exN cd) ["java/lang/RuntimeException", "java/lang/Exception"]).filter goodWord, w.before args s = true)
    (hng : ∀ w ∈ (vx_atS RX6 ic (exN cd) ["java/lang/RuntimeException", "java/lang/Exception"]).filter (fun w => !goodWord w), w ∈ cNg (exN cd)) (hca : exN cd ∈ cCa) (hgood : ∀ w ∈ Cond.classLink RX6 ik (exN cd) :: Cond.initialized (exN cd) :: vx_atS RX6 ic (exN cd) ["java/lang/RuntimeException", "java/lang/Exception"], vx_ot w = true)
    (hE : cE A s s.heap) (hI : cI A ad Z.2.2) (hK : cK D G s) (hN : cN D G ad Z H) (hS : va_S A s.heap H locs) (hsize : ls.size = c.maxLocals)
    (d0 : decode cc pc = .ok (.new ik, 3)) (d3 : decode cc (pc + 3) = .ok (.dup, 1)) (d4 : decode cc (pc + 4) = .ok (.ldc is, 2)) (d6 : decode cc (pc + 6) = .ok (.invokespecial ic, 3)) (d9 : decode cc (pc + 9) = .ok (.athrow, 1))
    (hexc : ∀ x ∈ c.exceptionTable.toList, False) (hlocks : meth.locks = false) (hf : 6 ≤ R.frames) (hlo : (rest.map fun v => v.category).sum + 82 ≤ R.locals) (hRc : cells + 1 ≤ R.cells) (hRs : slots + 6 ≤ R.slots) (hc : cells + 1 ≤ M) (hs : slots + 6 ≤ N) (hz : rz = .inr cd) (hZf : Zf = Z) :
    W p l e R s m args below meth c H locs cells slots (vx_MQ below Qc (xX D G A ad rz Zf) args s M N A) (F0 m pc ls rest) := by
  subst hz hZf
  obtain ⟨sa, hsa⟩ := hE.2.2.2 _ hq
  have hno : ∀ w ∈ cNg (exN cd), w.before args s = true := vx_c ((hE.1.1 _ (by decide +kernel)).use rfl) (vx_c ((hE.1.1 _ (by decide +kernel)).use rfl) (vx_c ((hE.1.1 _ (by decide +kernel)).use rfl) (vx_c ((hE.1.2 _ hca).use rfl) vx_n)))
  refine vx_throwS (A := A) (names := ["java/lang/RuntimeException", "java/lang/Exception"]) (sa := sa) hx hb hl hown hfit (by decide +kernel) hk hini hsa (vx_hat hat hng hno) hgood hE.2.1 hE.2.2.1 hS hsize d0 d3 d4 d6 d9 (fun x hx => (hexc x hx).elim) (show 5 < R.frames from hf) hlo hRc hRs hlocks (fun t hvm hz hk => ⟨_, rfl, ⟨⟨_, rfl, rfl⟩, hI, ?_, hK.moved hvm⟩, Nat.le_trans hS.1 hz, fun q h1 h2 => (hk q (Nat.lt_of_lt_of_le h1 hS.1)).trans (hS.2.1 q h1 h2)⟩) hS.2.2 hc hs
  exact fun k i hl => (hN k i hl).kept (hk _ (hN k i hl).lt)
theorem xg_throwW {cd : Int32} {α : Type} {rz : α ⊕ Int32} {text : String} {ik is ic : Nat} (hx : p.tables.exec = Jvm.exec) (hb : c.code = cc) (hl : l.stackTraces = false) (hown : s.vm.findClass RX6 = some m.cls) (hfit : Bundle.fit (exN cd) = true)
    (hk : (Cond.classLink RX6 ik (exN cd)).before args s = true) (hini : (Cond.initialized (exN cd)).before args s = true) (hq : (is, text) ∈ cStr) (hat : ∀ w ∈ (vx_atS RX6 ic (exN cd) ["java/lang/RuntimeException", "java/lang/Exception"]).filter goodWord, w.before args s = true)
    (hng : ∀ w ∈ (vx_atS RX6 ic (exN cd) ["java/lang/RuntimeException", "java/lang/Exception"]).filter (fun w => !goodWord w), w ∈ cNg (exN cd)) (hca : exN cd ∈ cCa) (hgood : ∀ w ∈ Cond.classLink RX6 ik (exN cd) :: Cond.initialized (exN cd) :: vx_atS RX6 ic (exN cd) ["java/lang/RuntimeException", "java/lang/Exception"], vx_ot w = true)
    (hE : cE A s s.heap) (hI : cI A ad Z.2.2) (hK : cK D G s) (hN : cN D G ad Z H) (hS : va_S A s.heap H locs) (hsize : ls.size = c.maxLocals)
    (d0 : decode cc pc = .ok (.new ik, 3)) (d3 : decode cc (pc + 3) = .ok (.dup, 1)) (d4 : decode cc (pc + 4) = .ok (.ldc_w is, 3)) (d6 : decode cc (pc + 7) = .ok (.invokespecial ic, 3)) (d9 : decode cc (pc + 10) = .ok (.athrow, 1))
    (hexc : ∀ x ∈ c.exceptionTable.toList, False) (hlocks : meth.locks = false) (hf : 6 ≤ R.frames) (hlo : (rest.map fun v => v.category).sum + 82 ≤ R.locals) (hRc : cells + 1 ≤ R.cells) (hRs : slots + 6 ≤ R.slots) (hc : cells + 1 ≤ M) (hs : slots + 6 ≤ N) (hz : rz = .inr cd) (hZf : Zf = Z) :
    W p l e R s m args below meth c H locs cells slots (vx_MQ below Qc (xX D G A ad rz Zf) args s M N A) (F0 m pc ls rest) := by
  subst hz hZf
  obtain ⟨sa, hsa⟩ := hE.2.2.2 _ hq
  have hno : ∀ w ∈ cNg (exN cd), w.before args s = true := vx_c ((hE.1.1 _ (by decide +kernel)).use rfl) (vx_c ((hE.1.1 _ (by decide +kernel)).use rfl) (vx_c ((hE.1.1 _ (by decide +kernel)).use rfl) (vx_c ((hE.1.2 _ hca).use rfl) vx_n)))
  refine vx_throwSW (A := A) (names := ["java/lang/RuntimeException", "java/lang/Exception"]) (sa := sa) hx hb hl hown hfit (by decide +kernel) hk hini hsa (vx_hat hat hng hno) hgood hE.2.1 hE.2.2.1 hS hsize d0 d3 d4 d6 d9 (fun x hx => (hexc x hx).elim) (show 5 < R.frames from hf) hlo hRc hRs hlocks (fun t hvm hz hk => ⟨_, rfl, ⟨⟨_, rfl, rfl⟩, hI, ?_, hK.moved hvm⟩, Nat.le_trans hS.1 hz, fun q h1 h2 => (hk q (Nat.lt_of_lt_of_le h1 hS.1)).trans (hS.2.1 q h1 h2)⟩) hS.2.2 hc hs
  exact fun k i hl => (hN k i hl).kept (hk _ (hN k i hl).lt)
end XG
theorem cEC_in (lx : Nat) : cEC lx ∈ cCo := by
  match lx with
  | 0 => decide | 1 => decide | 2 => decide | 3 => decide
  | n + 4 => show "Panyard$Seat" ∈ cCo; decide
theorem cEl_cell {D : va_G} {G : CGT} {ad : Nat → Nat → Nat} {Z : CZ} {H : Heap} {s : State} (hK : cK D G s) (hN : cN D G ad Z H) : ∀ (lx q : Nat), cLv Z.2.2 (cEk lx) q = true → ∃ cellV : Cell, H[ad (cEk lx) q]? = some cellV ∧ cellV.vm.isStatics = false ∧ s.vm.findClass (cEC lx) = some cellV.cls
  | 0, q, hq => cg_recv (k := 5) (i := q) hK hN hq rfl (ci := 2) rfl
  | 1, q, hq => cg_recv (k := 9) (i := q) hK hN hq rfl (ci := 5) rfl
  | 2, q, hq => cg_recv (k := 10) (i := q) hK hN hq rfl (ci := 1) rfl
  | 3, q, hq => cg_recv (k := 5) (i := q) hK hN hq rfl (ci := 2) rfl
  | _ + 4, q, hq => cg_recv (k := 13) (i := q) hK hN hq rfl (ci := 6) rfl
def cG (p : Program) (l : Launch) (e : Env) (R : Room) (s : State) (m : MethodId) (args : Array Value) (below : List Frame) (meth : Method) (c : Code) (Q : State → Prop) (D : va_G) (G : CGT) (A : Nat → Prop) (ad : Nat → Nat → Nat) (ce cs nL : Nat) (Z : CZ) (pc : Nat) (lst : List (Nat × Value)) (st : List Value) : Prop :=
  ∀ (H : Heap) (locs : List Loc) (ls : Array Slot), cI A ad Z.2.2 → cN D G ad Z H → va_S A s.heap H locs → lv_has ls nL lst → W p l e R s m args below meth c H locs ce cs Q (F0 m pc ls st)
