def lf9 {A1 A2 A3 A4 A5 A6 A7 A8 A9 ρ : Type} (step : (A1 → A2 → A3 → A4 → A5 → A6 → A7 → A8 → A9 → Option ρ) → A1 → A2 → A3 → A4 → A5 → A6 → A7 → A8 → A9 → Option ρ) : Nat → A1 → A2 → A3 → A4 → A5 → A6 → A7 → A8 → A9 → Option ρ
  | 0 => fun _ _ _ _ _ _ _ _ _ => none
  | n + 1 => step (lf9 step n)
theorem lf9_s {A1 A2 A3 A4 A5 A6 A7 A8 A9 ρ : Type} (step : (A1 → A2 → A3 → A4 → A5 → A6 → A7 → A8 → A9 → Option ρ) → A1 → A2 → A3 → A4 → A5 → A6 → A7 → A8 → A9 → Option ρ) (n : Nat) (a1 : A1) (a2 : A2) (a3 : A3) (a4 : A4) (a5 : A5) (a6 : A6) (a7 : A7) (a8 : A8) (a9 : A9) : lf9 step (n + 1) a1 a2 a3 a4 a5 a6 a7 a8 a9 = step (lf9 step n) a1 a2 a3 a4 a5 a6 a7 a8 a9 := rfl
theorem lf9_ok {A1 A2 A3 A4 A5 A6 A7 A8 A9 ρ : Type} {step : (A1 → A2 → A3 → A4 → A5 → A6 → A7 → A8 → A9 → Option ρ) → A1 → A2 → A3 → A4 → A5 → A6 → A7 → A8 → A9 → Option ρ} {R : ρ} {P : A1 → A2 → A3 → A4 → A5 → A6 → A7 → A8 → A9 → Prop} (hs : ∀ k : A1 → A2 → A3 → A4 → A5 → A6 → A7 → A8 → A9 → Option ρ, (∀ (a1 : A1) (a2 : A2) (a3 : A3) (a4 : A4) (a5 : A5) (a6 : A6) (a7 : A7) (a8 : A8) (a9 : A9), k a1 a2 a3 a4 a5 a6 a7 a8 a9 = some R → P a1 a2 a3 a4 a5 a6 a7 a8 a9) → ∀ (a1 : A1) (a2 : A2) (a3 : A3) (a4 : A4) (a5 : A5) (a6 : A6) (a7 : A7) (a8 : A8) (a9 : A9), step k a1 a2 a3 a4 a5 a6 a7 a8 a9 = some R → P a1 a2 a3 a4 a5 a6 a7 a8 a9) : ∀ (n : Nat) (a1 : A1) (a2 : A2) (a3 : A3) (a4 : A4) (a5 : A5) (a6 : A6) (a7 : A7) (a8 : A8) (a9 : A9), lf9 step n a1 a2 a3 a4 a5 a6 a7 a8 a9 = some R → P a1 a2 a3 a4 a5 a6 a7 a8 a9
  | 0, _, _, _, _, _, _, _, _, _, h => by cases h
  | n + 1, a1, a2, a3, a4, a5, a6, a7, a8, a9, h => hs (lf9 step n) (lf9_ok hs n) a1 a2 a3 a4 a5 a6 a7 a8 a9 h
def lf10 {A1 A2 A3 A4 A5 A6 A7 A8 A9 A10 ρ : Type} (step : (A1 → A2 → A3 → A4 → A5 → A6 → A7 → A8 → A9 → A10 → Option ρ) → A1 → A2 → A3 → A4 → A5 → A6 → A7 → A8 → A9 → A10 → Option ρ) : Nat → A1 → A2 → A3 → A4 → A5 → A6 → A7 → A8 → A9 → A10 → Option ρ
  | 0 => fun _ _ _ _ _ _ _ _ _ _ => none
  | n + 1 => step (lf10 step n)
theorem lf10_s {A1 A2 A3 A4 A5 A6 A7 A8 A9 A10 ρ : Type} (step : (A1 → A2 → A3 → A4 → A5 → A6 → A7 → A8 → A9 → A10 → Option ρ) → A1 → A2 → A3 → A4 → A5 → A6 → A7 → A8 → A9 → A10 → Option ρ) (n : Nat) (a1 : A1) (a2 : A2) (a3 : A3) (a4 : A4) (a5 : A5) (a6 : A6) (a7 : A7) (a8 : A8) (a9 : A9) (a10 : A10) : lf10 step (n + 1) a1 a2 a3 a4 a5 a6 a7 a8 a9 a10 = step (lf10 step n) a1 a2 a3 a4 a5 a6 a7 a8 a9 a10 := rfl
theorem lf10_ok {A1 A2 A3 A4 A5 A6 A7 A8 A9 A10 ρ : Type} {step : (A1 → A2 → A3 → A4 → A5 → A6 → A7 → A8 → A9 → A10 → Option ρ) → A1 → A2 → A3 → A4 → A5 → A6 → A7 → A8 → A9 → A10 → Option ρ} {R : ρ} {P : A1 → A2 → A3 → A4 → A5 → A6 → A7 → A8 → A9 → A10 → Prop} (hs : ∀ k : A1 → A2 → A3 → A4 → A5 → A6 → A7 → A8 → A9 → A10 → Option ρ, (∀ (a1 : A1) (a2 : A2) (a3 : A3) (a4 : A4) (a5 : A5) (a6 : A6) (a7 : A7) (a8 : A8) (a9 : A9) (a10 : A10), k a1 a2 a3 a4 a5 a6 a7 a8 a9 a10 = some R → P a1 a2 a3 a4 a5 a6 a7 a8 a9 a10) → ∀ (a1 : A1) (a2 : A2) (a3 : A3) (a4 : A4) (a5 : A5) (a6 : A6) (a7 : A7) (a8 : A8) (a9 : A9) (a10 : A10), step k a1 a2 a3 a4 a5 a6 a7 a8 a9 a10 = some R → P a1 a2 a3 a4 a5 a6 a7 a8 a9 a10) : ∀ (n : Nat) (a1 : A1) (a2 : A2) (a3 : A3) (a4 : A4) (a5 : A5) (a6 : A6) (a7 : A7) (a8 : A8) (a9 : A9) (a10 : A10), lf10 step n a1 a2 a3 a4 a5 a6 a7 a8 a9 a10 = some R → P a1 a2 a3 a4 a5 a6 a7 a8 a9 a10
  | 0, _, _, _, _, _, _, _, _, _, _, h => by cases h
  | n + 1, a1, a2, a3, a4, a5, a6, a7, a8, a9, a10, h => hs (lf10 step n) (lf10_ok hs n) a1 a2 a3 a4 a5 a6 a7 a8 a9 a10 h
def lf11 {A1 A2 A3 A4 A5 A6 A7 A8 A9 A10 A11 ρ : Type} (step : (A1 → A2 → A3 → A4 → A5 → A6 → A7 → A8 → A9 → A10 → A11 → Option ρ) → A1 → A2 → A3 → A4 → A5 → A6 → A7 → A8 → A9 → A10 → A11 → Option ρ) : Nat → A1 → A2 → A3 → A4 → A5 → A6 → A7 → A8 → A9 → A10 → A11 → Option ρ
  | 0 => fun _ _ _ _ _ _ _ _ _ _ _ => none
  | n + 1 => step (lf11 step n)
theorem lf11_s {A1 A2 A3 A4 A5 A6 A7 A8 A9 A10 A11 ρ : Type} (step : (A1 → A2 → A3 → A4 → A5 → A6 → A7 → A8 → A9 → A10 → A11 → Option ρ) → A1 → A2 → A3 → A4 → A5 → A6 → A7 → A8 → A9 → A10 → A11 → Option ρ) (n : Nat) (a1 : A1) (a2 : A2) (a3 : A3) (a4 : A4) (a5 : A5) (a6 : A6) (a7 : A7) (a8 : A8) (a9 : A9) (a10 : A10) (a11 : A11) : lf11 step (n + 1) a1 a2 a3 a4 a5 a6 a7 a8 a9 a10 a11 = step (lf11 step n) a1 a2 a3 a4 a5 a6 a7 a8 a9 a10 a11 := rfl
theorem lf11_ok {A1 A2 A3 A4 A5 A6 A7 A8 A9 A10 A11 ρ : Type} {step : (A1 → A2 → A3 → A4 → A5 → A6 → A7 → A8 → A9 → A10 → A11 → Option ρ) → A1 → A2 → A3 → A4 → A5 → A6 → A7 → A8 → A9 → A10 → A11 → Option ρ} {R : ρ} {P : A1 → A2 → A3 → A4 → A5 → A6 → A7 → A8 → A9 → A10 → A11 → Prop} (hs : ∀ k : A1 → A2 → A3 → A4 → A5 → A6 → A7 → A8 → A9 → A10 → A11 → Option ρ, (∀ (a1 : A1) (a2 : A2) (a3 : A3) (a4 : A4) (a5 : A5) (a6 : A6) (a7 : A7) (a8 : A8) (a9 : A9) (a10 : A10) (a11 : A11), k a1 a2 a3 a4 a5 a6 a7 a8 a9 a10 a11 = some R → P a1 a2 a3 a4 a5 a6 a7 a8 a9 a10 a11) → ∀ (a1 : A1) (a2 : A2) (a3 : A3) (a4 : A4) (a5 : A5) (a6 : A6) (a7 : A7) (a8 : A8) (a9 : A9) (a10 : A10) (a11 : A11), step k a1 a2 a3 a4 a5 a6 a7 a8 a9 a10 a11 = some R → P a1 a2 a3 a4 a5 a6 a7 a8 a9 a10 a11) : ∀ (n : Nat) (a1 : A1) (a2 : A2) (a3 : A3) (a4 : A4) (a5 : A5) (a6 : A6) (a7 : A7) (a8 : A8) (a9 : A9) (a10 : A10) (a11 : A11), lf11 step n a1 a2 a3 a4 a5 a6 a7 a8 a9 a10 a11 = some R → P a1 a2 a3 a4 a5 a6 a7 a8 a9 a10 a11
  | 0, _, _, _, _, _, _, _, _, _, _, _, h => by cases h
  | n + 1, a1, a2, a3, a4, a5, a6, a7, a8, a9, a10, a11, h => hs (lf11 step n) (lf11_ok hs n) a1 a2 a3 a4 a5 a6 a7 a8 a9 a10 a11 h
def lf12 {A1 A2 A3 A4 A5 A6 A7 A8 A9 A10 A11 A12 ρ : Type} (step : (A1 → A2 → A3 → A4 → A5 → A6 → A7 → A8 → A9 → A10 → A11 → A12 → Option ρ) → A1 → A2 → A3 → A4 → A5 → A6 → A7 → A8 → A9 → A10 → A11 → A12 → Option ρ) : Nat → A1 → A2 → A3 → A4 → A5 → A6 → A7 → A8 → A9 → A10 → A11 → A12 → Option ρ
  | 0 => fun _ _ _ _ _ _ _ _ _ _ _ _ => none
  | n + 1 => step (lf12 step n)
theorem lf12_s {A1 A2 A3 A4 A5 A6 A7 A8 A9 A10 A11 A12 ρ : Type} (step : (A1 → A2 → A3 → A4 → A5 → A6 → A7 → A8 → A9 → A10 → A11 → A12 → Option ρ) → A1 → A2 → A3 → A4 → A5 → A6 → A7 → A8 → A9 → A10 → A11 → A12 → Option ρ) (n : Nat) (a1 : A1) (a2 : A2) (a3 : A3) (a4 : A4) (a5 : A5) (a6 : A6) (a7 : A7) (a8 : A8) (a9 : A9) (a10 : A10) (a11 : A11) (a12 : A12) : lf12 step (n + 1) a1 a2 a3 a4 a5 a6 a7 a8 a9 a10 a11 a12 = step (lf12 step n) a1 a2 a3 a4 a5 a6 a7 a8 a9 a10 a11 a12 := rfl
theorem lf12_ok {A1 A2 A3 A4 A5 A6 A7 A8 A9 A10 A11 A12 ρ : Type} {step : (A1 → A2 → A3 → A4 → A5 → A6 → A7 → A8 → A9 → A10 → A11 → A12 → Option ρ) → A1 → A2 → A3 → A4 → A5 → A6 → A7 → A8 → A9 → A10 → A11 → A12 → Option ρ} {R : ρ} {P : A1 → A2 → A3 → A4 → A5 → A6 → A7 → A8 → A9 → A10 → A11 → A12 → Prop} (hs : ∀ k : A1 → A2 → A3 → A4 → A5 → A6 → A7 → A8 → A9 → A10 → A11 → A12 → Option ρ, (∀ (a1 : A1) (a2 : A2) (a3 : A3) (a4 : A4) (a5 : A5) (a6 : A6) (a7 : A7) (a8 : A8) (a9 : A9) (a10 : A10) (a11 : A11) (a12 : A12), k a1 a2 a3 a4 a5 a6 a7 a8 a9 a10 a11 a12 = some R → P a1 a2 a3 a4 a5 a6 a7 a8 a9 a10 a11 a12) → ∀ (a1 : A1) (a2 : A2) (a3 : A3) (a4 : A4) (a5 : A5) (a6 : A6) (a7 : A7) (a8 : A8) (a9 : A9) (a10 : A10) (a11 : A11) (a12 : A12), step k a1 a2 a3 a4 a5 a6 a7 a8 a9 a10 a11 a12 = some R → P a1 a2 a3 a4 a5 a6 a7 a8 a9 a10 a11 a12) : ∀ (n : Nat) (a1 : A1) (a2 : A2) (a3 : A3) (a4 : A4) (a5 : A5) (a6 : A6) (a7 : A7) (a8 : A8) (a9 : A9) (a10 : A10) (a11 : A11) (a12 : A12), lf12 step n a1 a2 a3 a4 a5 a6 a7 a8 a9 a10 a11 a12 = some R → P a1 a2 a3 a4 a5 a6 a7 a8 a9 a10 a11 a12
  | 0, _, _, _, _, _, _, _, _, _, _, _, _, h => by cases h
  | n + 1, a1, a2, a3, a4, a5, a6, a7, a8, a9, a10, a11, a12, h => hs (lf12 step n) (lf12_ok hs n) a1 a2 a3 a4 a5 a6 a7 a8 a9 a10 a11 a12 h
/-- a call of the law's that catches IllegalStateException and answers k then -/
def wx (k : Int32) (o : Option ((Int32 ⊕ Int32) × CZ)) : Option (Int32 × CZ) := match o with
  | some (.inl v, Z) => some (v, Z)
  | some (.inr c, Z) => if c = 3 then some (k, Z) else none
  | none => none
theorem wx_ok {k : Int32} {o : Option ((Int32 ⊕ Int32) × CZ)} {r : Int32} {Z : CZ} (h : wx k o = some (r, Z)) : o = some (.inl r, Z) ∨ (o = some (.inr 3, Z) ∧ r = k) := by
  rcases o with _ | ⟨v | c, Z1⟩
  · cases h
  · cases h
    exact Or.inl rfl
  · have h2 : (if c = 3 then some (k, Z1) else none) = some (r, Z) := h
    by_cases hc : c = 3
    · rw [if_pos hc] at h2
      cases h2
      exact Or.inr ⟨by rw [hc], rfl⟩
    · rw [if_neg hc] at h2
      cases h2
/-- the same, of a call that answers nothing -/
def wv (o : Option ((Unit ⊕ Int32) × CZ)) : Option (Int32 × CZ) := match o with
  | some (.inl (), Z) => some (1, Z)
  | some (.inr c, Z) => if c = 3 then some (0, Z) else none
  | none => none
theorem wv_ok {o : Option ((Unit ⊕ Int32) × CZ)} {r : Int32} {Z : CZ} (h : wv o = some (r, Z)) : (o = some (.inl (), Z) ∧ r = 1) ∨ (o = some (.inr 3, Z) ∧ r = 0) := by
  rcases o with _ | ⟨v | c, Z1⟩
  · cases h
  · cases h
    exact Or.inl ⟨rfl, rfl⟩
  · have h2 : (if c = 3 then some ((0 : Int32), Z1) else none) = some (r, Z) := h
    by_cases hc : c = 3
    · rw [if_pos hc] at h2
      cases h2
      exact Or.inr ⟨by rw [hc], rfl⟩
    · rw [if_neg hc] at h2
      cases h2
/-- the same, of a call that only reads -/
def wr (k : Int32) (o : Option (Int32 ⊕ Int32)) : Option Int32 := match o with
  | some (.inl v) => some v
  | some (.inr c) => if c = 3 then some k else none
  | none => none
theorem wr_ok {k : Int32} {o : Option (Int32 ⊕ Int32)} {r : Int32} (h : wr k o = some r) : o = some (.inl r) ∨ (o = some (.inr 3) ∧ r = k) := by
  rcases o with _ | (v | c)
  · cases h
  · cases h
    exact Or.inl rfl
  · have h2 : (if c = 3 then some k else none) = some r := h
    by_cases hc : c = 3
    · rw [if_pos hc] at h2
      cases h2
      exact Or.inr ⟨by rw [hc], rfl⟩
    · rw [if_neg hc] at h2
      cases h2
def sP (D : va_G) (G : CGT) (A : Nat → Prop) (ad : Nat → Nat → Nat) (Z : CZ) (q n : Nat) (F : Nat → Int32) (U : State) : Prop := (cP D G A ad Z U ∧ cE (fun y => A y ∨ y = q) U U.heap) ∧ cF G (fun y => A y ∨ y = q) U U.heap ∧ (∀ y, U.heap.size ≤ y → A y) ∧ va_at D vwCl (q, .inl (G.1, n, .inl F)) U.heap ∧ ¬ A q
/-- the world, and a row beside it that is only read -/
def eP (D : va_G) (G : CGT) (A : Nat → Prop) (ad : Nat → Nat → Nat) (Z : CZ) (q n : Nat) (F : Nat → Int32) (U : State) : Prop := xP D G A ad Z U ∧ va_at D vwCl (q, .inl (G.1, n, .inl F)) U.heap ∧ ¬ A q
def dP (D : va_G) (G : CGT) (A : Nat → Prop) (ad : Nat → Nat → Nat) (Z : CZ) (U : State) : Prop := xP D G A ad Z U ∧ ∀ q, U.heap.size ≤ q → A q
def sQ (D : va_G) (G : CGT) (A : Nat → Prop) (ad : Nat → Nat → Nat) (rz : Int32) (Zz : CZ) (q n : Nat) (Fz : Nat → Int32) : Array Value → State → Outcome → State → Prop := va_Qi (fun (r' : Int32) (u : CZ × (Nat → Nat → Nat) × (Nat → Int32)) => r' = rz ∧ u.1 = Zz ∧ u.2.1 0 0 = ad 0 0 ∧ u.2.2 = Fz) (fun u t => cP D G A u.2.1 u.1 t ∧ va_at D vwCl (q, .inl (G.1, n, .inl u.2.2)) t.heap) (fun x => A x ∨ x = q)
section LGF
variable {p : Program} {l : Launch} {e : Env} {R : Room} {s : State} {m : MethodId} {args : Array Value} {below : List Frame} {meth : Method} {c : Code} {H : Heap} {locs : List Loc} {cells slots mc ms : Nat} {Q : State → Prop}
variable {cc : ByteArray} {pc : Nat} {ls : Array Slot} {rest st0 : List Value} {D : va_G} {G : CGT} {A B FA : Nat → Prop} {ad ad0 : Nat → Nat → Nat} {Z Z' : CZ} {H0 : Heap} {Ts : List Cond} {q n : Nat} {F : Nat → Int32} {U : State} {x : va_E}
theorem iw_P1 (h : va_at D vwCl (q, x) H) : va_P D vwCl [(q, x)] H := fun k y hy => by
  have h1 : k < 1 := (List.getElem?_eq_some_iff.mp hy).1
  rw [show k = 0 by omega] at hy
  cases hy
  exact h
theorem cE.narrow (h : cE A U H) (hAB : ∀ q, B q → A q) : cE B U H := ⟨h.1, h.2.1.narrow hAB, h.2.2.1.narrow hAB, h.2.2.2⟩
theorem cF.narrow (h : cF G A U H) (hAB : ∀ q, B q → A q) : cF G B U H := ⟨h.1.narrow hAB, h.2.1.elim (fun gE hT => ⟨gE, hT.narrow hAB⟩), h.2.2⟩
theorem cI_wide (h : cI B ad Z.2.2) (hBA : ∀ y, B y → A y) : cI A ad Z.2.2 := ⟨h.1, fun k i hl => hBA _ (h.2 k i hl)⟩
/-- a call that throws nothing at all, of a method with handlers -/
theorem lg_callN {S : Type} {ar : Array Value} {A0 A1 free : Nat → Prop} {post : Int32 → S → Prop} {B : S → State → Prop} (hr : vx_Run p l e R s m args below meth c H locs cells slots mc ms (F0 m pc ls st0) rest (va_Qi post B A1 ar) (fun _ _ _ => False) free) (hS : va_S A0 H0 H locs) (hA : ∀ q, q < H.size → A1 q → A0 q) (hf : ∀ q, free q → A0 q)
    (kk : ∀ (r : Int32) (u : S) (t : State) (H1 : Heap) (locs1 : List Loc), t.heap = H1 → s.vm.Alike t.vm → post r u → B u t → H.size ≤ H1.size → (∀ q : Nat, q < H.size → ¬ A1 q → H1[q]? = H[q]?) → va_S A0 H0 H1 locs1 → W p l e R s m args below meth c H1 locs1 (cells + mc) (slots + ms) Q (F0 m (pc + 3) ls (.int r :: rest))) : W p l e R s m args below meth c H locs cells slots Q (F0 m pc ls st0) := by
  have hr' : vx_Run p l e R s m args below meth c H locs cells slots mc ms (F0 m pc ls st0) rest (va_Qi post B A1 ar) (vx_X (fun _ : Unit => False) (fun _ _ _ => False) (fun _ => False)) free := by
    intro T hT X
    rcases hr T hT X with h | ⟨q, st₀, t, T', L, E, ce, h0, X', hL, e1, e2, hF, h⟩
    · exact Or.inl h
    · exact hF.elim
  exact vx_calli hr' hS hA hf (fun _ _ h => h.elim) (fun E ce q9 u t H1 locs1 ht hvm hp => hp.elim) kk
/-! the world alone -/
theorem lw_calli {r : Int32} {ar : Array Value} (hr : va_Run p l e R s m args below meth c H locs cells slots mc ms (F0 m pc ls st0) rest (cQi D G A ad r Z' ar) A) (hS : va_S A H0 H locs)
    (kk : ∀ (H1 : Heap) (locs1 : List Loc), cI A ad Z'.2.2 → cN D G ad Z' H1 → va_S A H0 H1 locs1 → W p l e R s m args below meth c H1 locs1 (cells + mc) (slots + ms) Q (F0 m (pc + 3) ls (.int r :: rest))) : W p l e R s m args below meth c H locs cells slots Q (F0 m pc ls st0) := by
  refine va_calli hr hS (fun _ _ h => h) (fun _ h => h) (fun r' u t H1 locs1 ht hvm hw hB hz hk hS1 => ?_)
  obtain ⟨rfl, rfl⟩ := hw
  exact kk H1 locs1 hB.1 (by rw [← ht]; exact hB.2.1) hS1
theorem lw_callx {r : Int32} {ar : Array Value} (hr : vx_Run p l e R s m args below meth c H locs cells slots mc ms (F0 m pc ls st0) rest (cQi D G A ad r Z' ar) (fun _ _ _ => False) A) (hS : va_S A H0 H locs)
    (kk : ∀ (H1 : Heap) (locs1 : List Loc), cI A ad Z'.2.2 → cN D G ad Z' H1 → va_S A H0 H1 locs1 → W p l e R s m args below meth c H1 locs1 (cells + mc) (slots + ms) Q (F0 m (pc + 3) ls (.int r :: rest))) : W p l e R s m args below meth c H locs cells slots Q (F0 m pc ls st0) := by
  refine lg_callN hr hS (fun _ _ h => h) (fun _ h => h) (fun r' u t H1 locs1 ht hvm hw hB hz hk hS1 => ?_)
  obtain ⟨rfl, rfl⟩ := hw
  exact kk H1 locs1 hB.1 (by rw [← ht]; exact hB.2.1) hS1
/-! the world, and a row beside it -/
theorem sg_calli {r : Int32} {ar : Array Value} (hr : va_Run p l e R s m args below meth c H locs cells slots mc ms (F0 m pc ls st0) rest (cQi D G B ad r Z' ar) B) (hS : va_S FA H0 H locs) (hBF : ∀ y, B y → FA y) (hq : va_at D vwCl (q, x) H) (hnq : ¬ B q) (hx1 : ∃ y, x = .inl y)
    (kk : ∀ (H1 : Heap) (locs1 : List Loc), cI B ad Z'.2.2 → cN D G ad Z' H1 → va_at D vwCl (q, x) H1 → va_S FA H0 H1 locs1 → W p l e R s m args below meth c H1 locs1 (cells + mc) (slots + ms) Q (F0 m (pc + 3) ls (.int r :: rest))) : W p l e R s m args below meth c H locs cells slots Q (F0 m pc ls st0) := by
  refine va_calli hr hS (fun _ _ h => hBF _ h) (fun _ h => hBF _ h) (fun r' u t H1 locs1 ht hvm hw hB hz hk hS1 => ?_)
  obtain ⟨rfl, rfl⟩ := hw
  exact kk H1 locs1 hB.1 (by rw [← ht]; exact hB.2.1) (hq.kept (hk q hq.lt hnq)) hS1
theorem sg_callx {r : Int32} {ar : Array Value} (hr : vx_Run p l e R s m args below meth c H locs cells slots mc ms (F0 m pc ls st0) rest (cQi D G B ad r Z' ar) (fun _ _ _ => False) B) (hS : va_S FA H0 H locs) (hBF : ∀ y, B y → FA y) (hq : va_at D vwCl (q, x) H) (hnq : ¬ B q) (hx1 : ∃ y, x = .inl y)
    (kk : ∀ (H1 : Heap) (locs1 : List Loc), cI B ad Z'.2.2 → cN D G ad Z' H1 → va_at D vwCl (q, x) H1 → va_S FA H0 H1 locs1 → W p l e R s m args below meth c H1 locs1 (cells + mc) (slots + ms) Q (F0 m (pc + 3) ls (.int r :: rest))) : W p l e R s m args below meth c H locs cells slots Q (F0 m pc ls st0) := by
  refine lg_callN hr hS (fun _ _ h => hBF _ h) (fun _ h => hBF _ h) (fun r' u t H1 locs1 ht hvm hw hB hz hk hS1 => ?_)
  obtain ⟨rfl, rfl⟩ := hw
  exact kk H1 locs1 hB.1 (by rw [← ht]; exact hB.2.1) (hq.kept (hk q hq.lt hnq)) hS1
/-- a call by which the names may grow -/
theorem sg_callg {r : Int32} {ar : Array Value} (hr : vx_Run p l e R s m args below meth c H locs cells slots mc ms (F0 m pc ls st0) rest (aQi D G B ad (.inl r) Z' ar) (fun _ _ _ => False) B) (hS : va_S FA H0 H locs) (hBF : ∀ y, B y → FA y) (hq : va_at D vwCl (q, x) H) (hnq : ¬ B q) (h00 : ad 0 0 = ad0 0 0)
    (kk : ∀ (H1 : Heap) (locs1 : List Loc) (ad1 : Nat → Nat → Nat), ad1 0 0 = ad0 0 0 → cI B ad1 Z'.2.2 → cN D G ad1 Z' H1 → va_at D vwCl (q, x) H1 → va_S FA H0 H1 locs1 → W p l e R s m args below meth c H1 locs1 (cells + mc) (slots + ms) Q (F0 m (pc + 3) ls (.int r :: rest))) : W p l e R s m args below meth c H locs cells slots Q (F0 m pc ls st0) := by
  refine lg_callN hr hS (fun _ _ h => hBF _ h) (fun _ h => hBF _ h) (fun r' u t H1 locs1 ht hvm hw hB hz hk hS1 => ?_)
  obtain ⟨u1, ad1⟩ := u
  obtain ⟨h9, rfl, h01⟩ := hw
  cases h9
  exact kk H1 locs1 ad1 (h01.trans h00) hB.1 (by rw [← ht]; exact hB.2.1) (hq.kept (hk q hq.lt hnq)) hS1
/-! what a call begins with -/
theorem sg_preS {as : List Value} (hI : cI B ad Z.2.2) (hK : cK D G s) (hN : cN D G ad Z H) (hE : cE FA s s.heap) (hS : va_S FA s.heap H locs) (hBF : ∀ y, B y → FA y) : PreS s H (va_Pc as (xP D G B ad Z)) as :=
  ⟨xP_call, fun U hU hW => ⟨rfl, ⟨hI, by rw [hU]; exact hN, hK.moved hW.alike⟩, by rw [hU]; exact (hE.go hS hW).narrow hBF⟩⟩
theorem aP_call {as : List Value} : FrameBlind (va_Pc as (aP D G A ad Z)) := fun a U g mk h => ⟨h.1, (xP_call (as := as) a U g mk ⟨h.1, h.2.1⟩).2, h.2.2.1.go (s := U) (U := U.calling g mk a) va_S.rf (Vm.Alike.refl U.vm), h.2.2.2⟩
theorem ag_preS {as : List Value} (hI : cI B ad Z.2.2) (hK : cK D G s) (hN : cN D G ad Z H) (hE : cE FA s s.heap) (hF : cF G FA s s.heap) (hA : ∀ q, s.heap.size ≤ q → B q) (hS : va_S FA s.heap H locs) (hBF : ∀ y, B y → FA y) : PreS s H (va_Pc as (aP D G B ad Z)) as :=
  ⟨aP_call, fun U hU hW => ⟨rfl, ⟨⟨hI, by rw [hU]; exact hN, hK.moved hW.alike⟩, by rw [hU]; exact (hE.go hS hW).narrow hBF⟩, by rw [hU]; exact (hF.go hS hW.alike).narrow hBF, fun r h => hA r (Nat.le_trans hS.1 (by rw [← hU]; exact h))⟩⟩
theorem dP_call {as : List Value} : FrameBlind (va_Pc as (dP D G A ad Z)) := fun a U g mk h => ⟨h.1, (xP_call (as := as) a U g mk ⟨h.1, h.2.1⟩).2, h.2.2⟩
theorem dg_preS {as : List Value} (hI : cI B ad Z.2.2) (hK : cK D G s) (hN : cN D G ad Z H) (hE : cE FA s s.heap) (hA : ∀ q, s.heap.size ≤ q → B q) (hS : va_S FA s.heap H locs) (hBF : ∀ y, B y → FA y) : PreS s H (va_Pc as (dP D G B ad Z)) as :=
  ⟨dP_call, fun U hU hW => ⟨rfl, ⟨⟨hI, by rw [hU]; exact hN, hK.moved hW.alike⟩, by rw [hU]; exact (hE.go hS hW).narrow hBF⟩, fun r h => hA r (Nat.le_trans hS.1 (by rw [← hU]; exact h))⟩⟩
theorem eP_call {as : List Value} : FrameBlind (va_Pc as (eP D G A ad Z q n F)) := fun a U g mk h => ⟨h.1, (xP_call (as := as) a U g mk ⟨h.1, h.2.1⟩).2, h.2.2⟩
theorem eg_preS {as : List Value} (hI : cI B ad Z.2.2) (hK : cK D G s) (hN : cN D G ad Z H) (hE : cE FA s s.heap) (hS : va_S FA s.heap H locs) (hBF : ∀ y, B y → FA y) (hq : va_at D vwCl (q, .inl (G.1, n, .inl F)) H) (hnq : ¬ B q) : PreS s H (va_Pc as (eP D G B ad Z q n F)) as :=
  ⟨eP_call, fun U hU hW => ⟨rfl, ⟨⟨hI, by rw [hU]; exact hN, hK.moved hW.alike⟩, by rw [hU]; exact (hE.go hS hW).narrow hBF⟩, by rw [hU]; exact hq, hnq⟩⟩
/-! the row -/
theorem sg_ild (hx : p.tables.exec = Jvm.exec) (hb : c.code = cc) (hK : cK D G s) (hq : va_at D vwCl (q, .inl (G.1, n, .inl F)) H) {i : Int32} (hin : vp_in i n) (hdg : decode cc pc = .ok (.iaload, 1))
    (kk : W p l e R s m args below meth c H locs cells slots Q (F0 m (pc + 1) ls (.int (F i.toNatClampNeg) :: rest))) : W p l e R s m args below meth c H locs cells slots Q (F0 m pc ls (.int i :: .ref q :: rest)) :=
  va_iald (D := D) (cl := vwCl) hx hb hK.1 (iw_P1 hq) 0 0 rfl rfl hin hdg kk
theorem sg_ist (hx : p.tables.exec = Jvm.exec) (hb : c.code = cc) (hK : cK D G s) (hI : cI B ad Z.2.2) (hN : cN D G ad Z H) (hq : va_at D vwCl (q, .inl (G.1, n, .inl F)) H) (hnq : ¬ B q) (hS : va_S FA H0 H locs) (hFq : FA q) {i v : Int32} (hin : vp_in i n) {F' : Nat → Int32} (hF' : F' = upd F i.toNatClampNeg v) (hdg : decode cc pc = .ok (.iastore, 1))
    (kk : ∀ (H1 : Heap) (locs1 : List Loc), cN D G ad Z H1 → va_at D vwCl (q, .inl (G.1, n, .inl F')) H1 → va_S FA H0 H1 locs1 → W p l e R s m args below meth c H1 locs1 cells slots Q (F0 m (pc + 1) ls rest)) : W p l e R s m args below meth c H locs cells slots Q (F0 m pc ls (.int v :: .int i :: .ref q :: rest)) := by
  subst hF'
  refine W.iast hx hb ((iw_P1 hq) 0 _ rfl) ((hK.1.2 0 _ rfl).1 n (fun j => .int (F j))) (fun q => by cases q) (by show ¬ (i < 0 ∨ (arrV _ _ _).slots.size ≤ _); rw [arrV_size]; exact hin) rfl rfl hdg fun H1 e z oq => ?_
  refine kk H1 _ (fun k j hl => (hN k j hl).kept (oq _ (fun e => hnq (by have e2 : ad k j = q := e; rw [← e2]; exact hI.2 k j hl)))) ?_ (hS.put z oq hFq)
  show H1[q]? = some (vp_cell _ _)
  rw [e, vp_cell_i, vp_cell_i, arrV_store]
  congr 2
  funext j
  by_cases h : j = i.toNatClampNeg
  · subst h
    simp [updV, upd]
  · simp [updV, upd, h]
theorem va_P0 : va_P D vwCl [] H := fun k q h => by simp at h
theorem va_D0 : va_D A [] := ⟨fun i j p q h => by simp at h, fun k q h => by simp at h⟩
theorem lw_newa (hx : p.tables.exec = Jvm.exec) (hb : c.code = cc) (harr : (Cond.arrayClass .int).before args s = true) (hK : cK D G s) (hI : cI A ad Z.2.2) (hN : cN D G ad Z H) (hS : va_S A H0 H locs) (hA : ∀ q, H0.size ≤ q → A q) (hcells : cells + 1 ≤ R.cells) (hslots : slots + 8 ≤ R.slots) (hdg : decode cc pc = .ok (.newarray .int, 2))
    (kk : ∀ (q : Nat) (H1 : Heap), A q → cI (fun y => A y ∧ y ≠ q) ad Z.2.2 → cN D G ad Z H1 → va_at D vwCl (q, .inl (G.1, 8, .inl (fun _ => 0))) H1 → va_S A H0 H1 locs → W p l e R s m args below meth c H1 locs (cells + 1) (slots + 8) Q (F0 m (pc + 2) ls (.ref q :: rest))) : W p l e R s m args below meth c H locs cells slots Q (F0 m pc ls (.int 8 :: rest)) := by
  refine va_newaK (atype := .int) (N := 8) hx hb harr rfl hdg rfl (by decide) (by decide) (by decide) hcells hslots rfl fun H1 cA e1 z1 o1 hAr hNm => ?_
  have hc : cA = G.1 := by
    have h1 := (hK.1.2 0 _ rfl).2
    have h2 : s.vm.findClass ("[" ++ FieldType.int.toString) = some G.1 := h1
    have h3 : s.vm.findClass ("[" ++ FieldType.int.toString) = some cA := hNm
    exact Option.some.inj (h3.symm.trans h2)
  subst hc
  refine kk H.size H1 (hA _ hS.1) ⟨hI.1, fun k i hl => ⟨hI.2 k i hl, Nat.ne_of_lt (hN k i hl).lt⟩⟩ (fun k i hl => (hN k i hl).kept (o1 _ (hN k i hl).lt)) ?_ ⟨Nat.le_trans hS.1 (by omega), fun x h1 h2 => (o1 x (Nat.lt_of_lt_of_le h1 hS.1)).trans (hS.2.1 x h1 h2), hS.2.2⟩
  show H1[H.size]? = some (vp_cell _ _)
  rw [e1, vp_cell_i]
  rfl
/-! ends -/
theorem sg_end {rv rz : Int32} {Z1 Zz : CZ} {F1 Fz : Nat → Int32} (h : some (rv, Z1, F1) = some (rz, Zz, Fz)) (h00 : ad 0 0 = ad0 0 0) (hI : cI A ad Z1.2.2) (hK : cK D G s) (hN : cN D G ad Z1 H) (hq : va_at D vwCl (q, .inl (G.1, n, .inl F1)) H) (hS : va_S (fun y => A y ∨ y = q) s.heap H locs) (t : State) (ht : t.heap = H) (hW : s.WarmedH t.vm) : sQ D G A ad0 rz Zz q n Fz args s (.returned (some (.int rv))) t := by
  cases h
  exact ⟨⟨_, (_, ad, _), rfl, ⟨rfl, rfl, h00, rfl⟩, ⟨hI, by rw [ht]; exact hN, hK.moved hW.alike⟩, by rw [ht]; exact hq⟩, hS.F ht⟩
end LGF
/-- the machine comes to its end from here: the world under names that may have grown, and the row q -/
def sG (p : Program) (l : Launch) (e : Env) (R : Room) (s : State) (m : MethodId) (args : Array Value) (below : List Frame) (meth : Method) (c : Code) (Q : State → Prop) (D : va_G) (G : CGT) (FA B : Nat → Prop) (ad0 : Nat → Nat → Nat) (q n ce cs nL : Nat) (Z : CZ) (F : Nat → Int32) (pc : Nat) (lst : List (Nat × Value)) (st : List Value) : Prop :=
  ∀ (H : Heap) (locs : List Loc) (ls : Array Slot) (ad : Nat → Nat → Nat), ad 0 0 = ad0 0 0 → cI B ad Z.2.2 → cN D G ad Z H → va_at D vwCl (q, .inl (G.1, n, .inl F)) H → va_S FA s.heap H locs → lv_has ls nL lst → W p l e R s m args below meth c H locs ce cs Q (F0 m pc ls st)
/-- the same, under names that stay -/
def tG (p : Program) (l : Launch) (e : Env) (R : Room) (s : State) (m : MethodId) (args : Array Value) (below : List Frame) (meth : Method) (c : Code) (Q : State → Prop) (D : va_G) (G : CGT) (FA B : Nat → Prop) (ad : Nat → Nat → Nat) (q n ce cs nL : Nat) (Z : CZ) (F : Nat → Int32) (pc : Nat) (lst : List (Nat × Value)) (st : List Value) : Prop :=
  ∀ (H : Heap) (locs : List Loc) (ls : Array Slot), cI B ad Z.2.2 → cN D G ad Z H → va_at D vwCl (q, .inl (G.1, n, .inl F)) H → va_S FA s.heap H locs → lv_has ls nL lst → W p l e R s m args below meth c H locs ce cs Q (F0 m pc ls st)
