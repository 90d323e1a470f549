/-! Pure pictures of methods: a guard, a name, a call, a loop with fuel; 'some r' is what the method answers. -/
def gd {α : Type} (b : Bool) (x : Option α) : Option α := if b = true then x else none
theorem gd_ok {α : Type} {b : Bool} {x : Option α} {r : α} (h : gd b x = some r) : b = true ∧ x = some r := by
  cases b with
  | true => exact ⟨rfl, h⟩
  | false => simp [gd] at h
theorem gd_t {α : Type} {b : Bool} {x : Option α} (h : b = true) : gd b x = x := by rw [h]; rfl
def bnd {α β : Type} (a : α) (f : α → β) : β := f a
theorem bnd_ok {α β : Type} {a x : α} {f : α → β} {r : β} (h : bnd a f = r) (e : x = a) : f x = r := by rw [e]; exact h
def cl1 {α ρ : Type} (o : Option α) (f : α → Option ρ) : Option ρ := match o with
  | some q => f q
  | none => none
theorem cl1_ok {α ρ : Type} {o : Option α} {f : α → Option ρ} {r : ρ} (h : cl1 o f = some r) : ∃ a, o = some a ∧ f a = some r := by
  cases o with
  | some q => exact ⟨q, rfl, h⟩
  | none => cases h
theorem cl1_s {α ρ : Type} (a : α) (f : α → Option ρ) : cl1 (some a) f = f a := rfl
def cl2 {α β ρ : Type} (o : Option (α × β)) (f : α → β → Option ρ) : Option ρ := match o with
  | some q => f q.1 q.2
  | none => none
theorem cl2_ok {α β ρ : Type} {o : Option (α × β)} {f : α → β → Option ρ} {r : ρ} (h : cl2 o f = some r) : ∃ a b, o = some (a, b) ∧ f a b = some r := by
  cases o with
  | some q => exact ⟨q.1, q.2, rfl, h⟩
  | none => cases h
theorem cl2_s {α β ρ : Type} (a : α) (b : β) (f : α → β → Option ρ) : cl2 (some (a, b)) f = f a b := rfl
theorem ite_t {α : Type} {c : Prop} [Decidable c] {a b r : α} (h : (if c then a else b) = r) (hc : c) : a = r := by rw [if_pos hc] at h; exact h
theorem ite_f {α : Type} {c : Prop} [Decidable c] {a b r : α} (h : (if c then a else b) = r) (hc : ¬ c) : b = r := by rw [if_neg hc] at h; exact h
def gin (i : Int32) (n : Nat) : Bool := decide (¬ (i < 0 ∨ n ≤ i.toNatClampNeg))
theorem gin_ok {i : Int32} {n : Nat} (h : gin i n = true) : vp_in i n := by
  have h2 : ¬ (i < 0 ∨ n ≤ i.toNatClampNeg) := of_decide_eq_true h
  exact h2
/-- 0 or 1 -/
def gbo (i : Int32) : Bool := decide (i = 0 ∨ i = 1)
theorem gbo_ok {i : Int32} (h : gbo i = true) : narrow .boolean (.int i) = .int i := by
  rcases of_decide_eq_true h with rfl | rfl <;> rfl
/-- the remainder -/
def irm (x y : Int32) : Int32 := x - x / y * y
def lf1 {A1 ρ : Type} (step : (A1 → Option ρ) → A1 → Option ρ) : Nat → A1 → Option ρ
  | 0 => fun _ => none
  | n + 1 => step (lf1 step n)
theorem lf1_s {A1 ρ : Type} (step : (A1 → Option ρ) → A1 → Option ρ) (n : Nat) (a1 : A1) : lf1 step (n + 1) a1 = step (lf1 step n) a1 := rfl
theorem lf1_ok {A1 ρ : Type} {step : (A1 → Option ρ) → A1 → Option ρ} {R : ρ} {P : A1 → Prop} (hs : ∀ k : A1 → Option ρ, (∀ (a1 : A1), k a1 = some R → P a1) → ∀ (a1 : A1), step k a1 = some R → P a1) : ∀ (n : Nat) (a1 : A1), lf1 step n a1 = some R → P a1
  | 0, _, h => by cases h
  | n + 1, a1, h => hs (lf1 step n) (lf1_ok hs n) a1 h
def lf2 {A1 A2 ρ : Type} (step : (A1 → A2 → Option ρ) → A1 → A2 → Option ρ) : Nat → A1 → A2 → Option ρ
  | 0 => fun _ _ => none
  | n + 1 => step (lf2 step n)
theorem lf2_s {A1 A2 ρ : Type} (step : (A1 → A2 → Option ρ) → A1 → A2 → Option ρ) (n : Nat) (a1 : A1) (a2 : A2) : lf2 step (n + 1) a1 a2 = step (lf2 step n) a1 a2 := rfl
theorem lf2_ok {A1 A2 ρ : Type} {step : (A1 → A2 → Option ρ) → A1 → A2 → Option ρ} {R : ρ} {P : A1 → A2 → Prop} (hs : ∀ k : A1 → A2 → Option ρ, (∀ (a1 : A1) (a2 : A2), k a1 a2 = some R → P a1 a2) → ∀ (a1 : A1) (a2 : A2), step k a1 a2 = some R → P a1 a2) : ∀ (n : Nat) (a1 : A1) (a2 : A2), lf2 step n a1 a2 = some R → P a1 a2
  | 0, _, _, h => by cases h
  | n + 1, a1, a2, h => hs (lf2 step n) (lf2_ok hs n) a1 a2 h
def lf3 {A1 A2 A3 ρ : Type} (step : (A1 → A2 → A3 → Option ρ) → A1 → A2 → A3 → Option ρ) : Nat → A1 → A2 → A3 → Option ρ
  | 0 => fun _ _ _ => none
  | n + 1 => step (lf3 step n)
theorem lf3_s {A1 A2 A3 ρ : Type} (step : (A1 → A2 → A3 → Option ρ) → A1 → A2 → A3 → Option ρ) (n : Nat) (a1 : A1) (a2 : A2) (a3 : A3) : lf3 step (n + 1) a1 a2 a3 = step (lf3 step n) a1 a2 a3 := rfl
theorem lf3_ok {A1 A2 A3 ρ : Type} {step : (A1 → A2 → A3 → Option ρ) → A1 → A2 → A3 → Option ρ} {R : ρ} {P : A1 → A2 → A3 → Prop} (hs : ∀ k : A1 → A2 → A3 → Option ρ, (∀ (a1 : A1) (a2 : A2) (a3 : A3), k a1 a2 a3 = some R → P a1 a2 a3) → ∀ (a1 : A1) (a2 : A2) (a3 : A3), step k a1 a2 a3 = some R → P a1 a2 a3) : ∀ (n : Nat) (a1 : A1) (a2 : A2) (a3 : A3), lf3 step n a1 a2 a3 = some R → P a1 a2 a3
  | 0, _, _, _, h => by cases h
  | n + 1, a1, a2, a3, h => hs (lf3 step n) (lf3_ok hs n) a1 a2 a3 h
def lf4 {A1 A2 A3 A4 ρ : Type} (step : (A1 → A2 → A3 → A4 → Option ρ) → A1 → A2 → A3 → A4 → Option ρ) : Nat → A1 → A2 → A3 → A4 → Option ρ
  | 0 => fun _ _ _ _ => none
  | n + 1 => step (lf4 step n)
theorem lf4_s {A1 A2 A3 A4 ρ : Type} (step : (A1 → A2 → A3 → A4 → Option ρ) → A1 → A2 → A3 → A4 → Option ρ) (n : Nat) (a1 : A1) (a2 : A2) (a3 : A3) (a4 : A4) : lf4 step (n + 1) a1 a2 a3 a4 = step (lf4 step n) a1 a2 a3 a4 := rfl
theorem lf4_ok {A1 A2 A3 A4 ρ : Type} {step : (A1 → A2 → A3 → A4 → Option ρ) → A1 → A2 → A3 → A4 → Option ρ} {R : ρ} {P : A1 → A2 → A3 → A4 → Prop} (hs : ∀ k : A1 → A2 → A3 → A4 → Option ρ, (∀ (a1 : A1) (a2 : A2) (a3 : A3) (a4 : A4), k a1 a2 a3 a4 = some R → P a1 a2 a3 a4) → ∀ (a1 : A1) (a2 : A2) (a3 : A3) (a4 : A4), step k a1 a2 a3 a4 = some R → P a1 a2 a3 a4) : ∀ (n : Nat) (a1 : A1) (a2 : A2) (a3 : A3) (a4 : A4), lf4 step n a1 a2 a3 a4 = some R → P a1 a2 a3 a4
  | 0, _, _, _, _, h => by cases h
  | n + 1, a1, a2, a3, a4, h => hs (lf4 step n) (lf4_ok hs n) a1 a2 a3 a4 h
def lf5 {A1 A2 A3 A4 A5 ρ : Type} (step : (A1 → A2 → A3 → A4 → A5 → Option ρ) → A1 → A2 → A3 → A4 → A5 → Option ρ) : Nat → A1 → A2 → A3 → A4 → A5 → Option ρ
  | 0 => fun _ _ _ _ _ => none
  | n + 1 => step (lf5 step n)
theorem lf5_s {A1 A2 A3 A4 A5 ρ : Type} (step : (A1 → A2 → A3 → A4 → A5 → Option ρ) → A1 → A2 → A3 → A4 → A5 → Option ρ) (n : Nat) (a1 : A1) (a2 : A2) (a3 : A3) (a4 : A4) (a5 : A5) : lf5 step (n + 1) a1 a2 a3 a4 a5 = step (lf5 step n) a1 a2 a3 a4 a5 := rfl
theorem lf5_ok {A1 A2 A3 A4 A5 ρ : Type} {step : (A1 → A2 → A3 → A4 → A5 → Option ρ) → A1 → A2 → A3 → A4 → A5 → Option ρ} {R : ρ} {P : A1 → A2 → A3 → A4 → A5 → Prop} (hs : ∀ k : A1 → A2 → A3 → A4 → A5 → Option ρ, (∀ (a1 : A1) (a2 : A2) (a3 : A3) (a4 : A4) (a5 : A5), k a1 a2 a3 a4 a5 = some R → P a1 a2 a3 a4 a5) → ∀ (a1 : A1) (a2 : A2) (a3 : A3) (a4 : A4) (a5 : A5), step k a1 a2 a3 a4 a5 = some R → P a1 a2 a3 a4 a5) : ∀ (n : Nat) (a1 : A1) (a2 : A2) (a3 : A3) (a4 : A4) (a5 : A5), lf5 step n a1 a2 a3 a4 a5 = some R → P a1 a2 a3 a4 a5
  | 0, _, _, _, _, _, h => by cases h
  | n + 1, a1, a2, a3, a4, a5, h => hs (lf5 step n) (lf5_ok hs n) a1 a2 a3 a4 a5 h
def lf6 {A1 A2 A3 A4 A5 A6 ρ : Type} (step : (A1 → A2 → A3 → A4 → A5 → A6 → Option ρ) → A1 → A2 → A3 → A4 → A5 → A6 → Option ρ) : Nat → A1 → A2 → A3 → A4 → A5 → A6 → Option ρ
  | 0 => fun _ _ _ _ _ _ => none
  | n + 1 => step (lf6 step n)
theorem lf6_s {A1 A2 A3 A4 A5 A6 ρ : Type} (step : (A1 → A2 → A3 → A4 → A5 → A6 → Option ρ) → A1 → A2 → A3 → A4 → A5 → A6 → Option ρ) (n : Nat) (a1 : A1) (a2 : A2) (a3 : A3) (a4 : A4) (a5 : A5) (a6 : A6) : lf6 step (n + 1) a1 a2 a3 a4 a5 a6 = step (lf6 step n) a1 a2 a3 a4 a5 a6 := rfl
theorem lf6_ok {A1 A2 A3 A4 A5 A6 ρ : Type} {step : (A1 → A2 → A3 → A4 → A5 → A6 → Option ρ) → A1 → A2 → A3 → A4 → A5 → A6 → Option ρ} {R : ρ} {P : A1 → A2 → A3 → A4 → A5 → A6 → Prop} (hs : ∀ k : A1 → A2 → A3 → A4 → A5 → A6 → Option ρ, (∀ (a1 : A1) (a2 : A2) (a3 : A3) (a4 : A4) (a5 : A5) (a6 : A6), k a1 a2 a3 a4 a5 a6 = some R → P a1 a2 a3 a4 a5 a6) → ∀ (a1 : A1) (a2 : A2) (a3 : A3) (a4 : A4) (a5 : A5) (a6 : A6), step k a1 a2 a3 a4 a5 a6 = some R → P a1 a2 a3 a4 a5 a6) : ∀ (n : Nat) (a1 : A1) (a2 : A2) (a3 : A3) (a4 : A4) (a5 : A5) (a6 : A6), lf6 step n a1 a2 a3 a4 a5 a6 = some R → P a1 a2 a3 a4 a5 a6
  | 0, _, _, _, _, _, _, h => by cases h
  | n + 1, a1, a2, a3, a4, a5, a6, h => hs (lf6 step n) (lf6_ok hs n) a1 a2 a3 a4 a5 a6 h
def lf7 {A1 A2 A3 A4 A5 A6 A7 ρ : Type} (step : (A1 → A2 → A3 → A4 → A5 → A6 → A7 → Option ρ) → A1 → A2 → A3 → A4 → A5 → A6 → A7 → Option ρ) : Nat → A1 → A2 → A3 → A4 → A5 → A6 → A7 → Option ρ
  | 0 => fun _ _ _ _ _ _ _ => none
  | n + 1 => step (lf7 step n)
theorem lf7_s {A1 A2 A3 A4 A5 A6 A7 ρ : Type} (step : (A1 → A2 → A3 → A4 → A5 → A6 → A7 → Option ρ) → A1 → A2 → A3 → A4 → A5 → A6 → A7 → Option ρ) (n : Nat) (a1 : A1) (a2 : A2) (a3 : A3) (a4 : A4) (a5 : A5) (a6 : A6) (a7 : A7) : lf7 step (n + 1) a1 a2 a3 a4 a5 a6 a7 = step (lf7 step n) a1 a2 a3 a4 a5 a6 a7 := rfl
theorem lf7_ok {A1 A2 A3 A4 A5 A6 A7 ρ : Type} {step : (A1 → A2 → A3 → A4 → A5 → A6 → A7 → Option ρ) → A1 → A2 → A3 → A4 → A5 → A6 → A7 → Option ρ} {R : ρ} {P : A1 → A2 → A3 → A4 → A5 → A6 → A7 → Prop} (hs : ∀ k : A1 → A2 → A3 → A4 → A5 → A6 → A7 → Option ρ, (∀ (a1 : A1) (a2 : A2) (a3 : A3) (a4 : A4) (a5 : A5) (a6 : A6) (a7 : A7), k a1 a2 a3 a4 a5 a6 a7 = some R → P a1 a2 a3 a4 a5 a6 a7) → ∀ (a1 : A1) (a2 : A2) (a3 : A3) (a4 : A4) (a5 : A5) (a6 : A6) (a7 : A7), step k a1 a2 a3 a4 a5 a6 a7 = some R → P a1 a2 a3 a4 a5 a6 a7) : ∀ (n : Nat) (a1 : A1) (a2 : A2) (a3 : A3) (a4 : A4) (a5 : A5) (a6 : A6) (a7 : A7), lf7 step n a1 a2 a3 a4 a5 a6 a7 = some R → P a1 a2 a3 a4 a5 a6 a7
  | 0, _, _, _, _, _, _, _, h => by cases h
  | n + 1, a1, a2, a3, a4, a5, a6, a7, h => hs (lf7 step n) (lf7_ok hs n) a1 a2 a3 a4 a5 a6 a7 h
def lf8 {A1 A2 A3 A4 A5 A6 A7 A8 ρ : Type} (step : (A1 → A2 → A3 → A4 → A5 → A6 → A7 → A8 → Option ρ) → A1 → A2 → A3 → A4 → A5 → A6 → A7 → A8 → Option ρ) : Nat → A1 → A2 → A3 → A4 → A5 → A6 → A7 → A8 → Option ρ
  | 0 => fun _ _ _ _ _ _ _ _ => none
  | n + 1 => step (lf8 step n)
theorem lf8_s {A1 A2 A3 A4 A5 A6 A7 A8 ρ : Type} (step : (A1 → A2 → A3 → A4 → A5 → A6 → A7 → A8 → Option ρ) → A1 → A2 → A3 → A4 → A5 → A6 → A7 → A8 → Option ρ) (n : Nat) (a1 : A1) (a2 : A2) (a3 : A3) (a4 : A4) (a5 : A5) (a6 : A6) (a7 : A7) (a8 : A8) : lf8 step (n + 1) a1 a2 a3 a4 a5 a6 a7 a8 = step (lf8 step n) a1 a2 a3 a4 a5 a6 a7 a8 := rfl
theorem lf8_ok {A1 A2 A3 A4 A5 A6 A7 A8 ρ : Type} {step : (A1 → A2 → A3 → A4 → A5 → A6 → A7 → A8 → Option ρ) → A1 → A2 → A3 → A4 → A5 → A6 → A7 → A8 → Option ρ} {R : ρ} {P : A1 → A2 → A3 → A4 → A5 → A6 → A7 → A8 → Prop} (hs : ∀ k : A1 → A2 → A3 → A4 → A5 → A6 → A7 → A8 → Option ρ, (∀ (a1 : A1) (a2 : A2) (a3 : A3) (a4 : A4) (a5 : A5) (a6 : A6) (a7 : A7) (a8 : A8), k a1 a2 a3 a4 a5 a6 a7 a8 = some R → P a1 a2 a3 a4 a5 a6 a7 a8) → ∀ (a1 : A1) (a2 : A2) (a3 : A3) (a4 : A4) (a5 : A5) (a6 : A6) (a7 : A7) (a8 : A8), step k a1 a2 a3 a4 a5 a6 a7 a8 = some R → P a1 a2 a3 a4 a5 a6 a7 a8) : ∀ (n : Nat) (a1 : A1) (a2 : A2) (a3 : A3) (a4 : A4) (a5 : A5) (a6 : A6) (a7 : A7) (a8 : A8), lf8 step n a1 a2 a3 a4 a5 a6 a7 a8 = some R → P a1 a2 a3 a4 a5 a6 a7 a8
  | 0, _, _, _, _, _, _, _, _, h => by cases h
  | n + 1, a1, a2, a3, a4, a5, a6, a7, a8, h => hs (lf8 step n) (lf8_ok hs n) a1 a2 a3 a4 a5 a6 a7 a8 h
/-! Cells by names (kind, number): a world is what the named cells hold. -/
def nw (D : va_G) (cl : List vw_C) (ad : Nat → Nat → Nat) (lv : Nat → Nat → Prop) (S : Nat → Nat → va_E) (H : Heap) : Prop := ∀ k i, lv k i → va_at D cl (ad k i, S k i) H
def nwI (A : Nat → Prop) (ad : Nat → Nat → Nat) (lv : Nat → Nat → Prop) : Prop := (∀ k i k' i', lv k i → lv k' i' → ad k i = ad k' i' → k = k' ∧ i = i') ∧ ∀ k i, lv k i → A (ad k i)
theorem nw_one {D : va_G} {cl : List vw_C} {ad : Nat → Nat → Nat} {lv : Nat → Nat → Prop} {S : Nat → Nat → va_E} {H : Heap} (h : nw D cl ad lv S H) {k i : Nat} (hl : lv k i) {e : va_E} (he : S k i = e) : va_P D cl [(ad k i, e)] H := by
  intro j q hq
  have hz : j < 1 := (List.getElem?_eq_some_iff.mp hq).1
  rw [show j = 0 by omega] at hq
  cases hq
  rw [← he]
  exact h k i hl
theorem nw_set {D : va_G} {cl : List vw_C} {A : Nat → Prop} {ad : Nat → Nat → Nat} {lv : Nat → Nat → Prop} {S S' : Nat → Nat → va_E} {H H1 : Heap} (h : nw D cl ad lv S H) (hI : nwI A ad lv) {k i : Nat} (hl : lv k i) {e : va_E} (he : S' k i = e) (h1 : va_at D cl (ad k i, e) H1) (oq : ∀ q : Nat, q ≠ ad k i → H1[q]? = H[q]?) (hfr : ∀ k' i', lv k' i' → ¬ (k' = k ∧ i' = i) → S' k' i' = S k' i') : nw D cl ad lv S' H1 := by
  intro k' i' hl'
  by_cases hk : k' = k ∧ i' = i
  · obtain ⟨rfl, rfl⟩ := hk
    rw [he]
    exact h1
  · rw [hfr k' i' hl' hk]
    exact (h k' i' hl').kept (oq _ (fun z => hk (hI.1 k' i' k i hl' hl z)))
theorem va_D1 {A : Nat → Prop} {q : Nat × va_E} (h : A q.1) : va_D A [q] := by
  refine ⟨fun i j x y hi hj _ => ?_, fun k x hk => ?_⟩
  · have h1 : i < 1 := (List.getElem?_eq_some_iff.mp hi).1
    have h2 : j < 1 := (List.getElem?_eq_some_iff.mp hj).1
    omega
  · have h1 : k < 1 := (List.getElem?_eq_some_iff.mp hk).1
    rw [show k = 0 by omega] at hk
    cases hk
    exact h
section NWR
variable {p : Program} {l : Launch} {e : Env} {R : Room} {s : State} {m : MethodId} {args : Array Value} {below : List Frame} {meth : Method} {c : Code} {H : Heap} {locs : List Loc} {cells slots : Nat} {Q : State → Prop}
variable {cc : ByteArray} {pc : Nat} {ls : Array Slot} {rest : List Value} {D : va_G} {cl : List vw_C} {A : Nat → Prop} {tys : List (ClassId × FieldType)} {H0 : Heap} {ad : Nat → Nat → Nat} {lv : Nat → Nat → Prop} {S S' : Nat → Nat → va_E}
theorem lv_irm (hexec : p.tables.exec = Jvm.exec) (hb : c.code = cc) {x y : Int32} (hdg : decode cc pc = .ok (.irem, 1)) (hne : ¬ y = 0)
    (k : W p l e R s m args below meth c H locs cells slots Q (F0 m (pc + 1) ls (.int (irm x y) :: rest))) : W p l e R s m args below meth c H locs cells slots Q (F0 m pc ls (.int y :: .int x :: rest)) := lv_irem hexec hb hdg hne k
theorem nw_put (hexec : p.tables.exec = Jvm.exec) (hb : c.code = cc) {own ref C : String} {T : u_T} {N ci index : Nat} {Ts : List Cond} (hts : ∀ w ∈ Ts, w.before args s = true) (hin : ∀ w ∈ u_ws C T N, w ∈ Ts) (ty0 : Nat → FieldType) (hty : ∀ k, k < N → parseFieldDescriptor (T k).2.2.1 = some (ty0 k)) (hnm : ∀ a, a < N → ∀ b, b < N → a ≠ b → (T a).2.1 ≠ (T b).2.1) (hown : s.vm.findClass own = some m.cls) (hK : va_K D cl tys s) (hN : nw D cl ad lv S H) (hI : nwI A ad lv) (hS0 : va_S A H0 H locs) {ki ii : Nat} (hlv : lv ki ii) {fs : List Value} (he : S ki ii = .inr (ci, fs)) (hc : cl[ci]? = some (C, T, N)) (k : Nat) (hk : k < N) (hlink : (Cond.fieldLink own index ref (T k).2.1 (T k).2.2.1).before args s = true) (hsame : ∀ x, s.fieldFound? (T k).1 (T k).2.1 (T k).2.2.1 = some x → s.fieldFound? ref (T k).2.1 (T k).2.2.1 = some x) (hfin : (T k).2.2.2 = false) {ty : FieldType} {v : Value} (hd : parseFieldDescriptor (T k).2.2.1 = some ty) (hn : narrow ty v = v) (hfit : fits ty v = true) (hl : k < fs.length)
    (hS' : S' ki ii = .inr (ci, fs.set k v)) (hfr : ∀ k' i', lv k' i' → ¬ (k' = ki ∧ i' = ii) → S' k' i' = S k' i')
    (hdg : decode cc pc = .ok (.putfield index, 3)) (kk : ∀ (H1 : Heap) (locs1 : List Loc), nw D cl ad lv S' H1 → va_S A H0 H1 locs1 → W p l e R s m args below meth c H1 locs1 cells slots Q (F0 m (pc + 3) ls rest)) : W p l e R s m args below meth c H locs cells slots Q (F0 m pc ls (v :: .ref (ad ki ii) :: rest)) := by
  have hap := va_apart (own := own) hts hin ty0 hty hnm hK hc
  obtain ⟨r, h1, cell, q1, q2, q3, q4⟩ := nw_one hN hlv he 0 _ rfl
  have hr : r = (C, T, N) := Option.some.inj (h1.symm.trans hc)
  subst hr
  obtain ⟨hS, hfc, kC, hkC, hkind⟩ := hK.1 ci _ hc
  obtain ⟨cf, kf, fi, f, hi, hsl⟩ := hS k hk
  have hlay := hts _ (hin _ (u_in_lay hk))
  unfold u_lay at hlay
  rw [if_neg (by rw [hfin]; decide)] at hlay
  have hst := (u_facts hfc hkC (u_lays hts hin hk) hi).1
  have h6 := u_store hfc hkC hkind hlay hi hd hn hfit
  refine W.putK hexec hb (f := f) ⟨hown, hlink, ⟨_, _, _, hsame _ hi⟩, hst⟩ (by rw [q2]; exact h6) q1 q3 (by rw [hsl]; exact k2_hasslot (q4 k hk)) rfl rfl hdg fun H' e1 e2 e3 => ?_
  rw [hsl] at e1 ⊢
  exact kk H' _ (nw_set hN hI hlv hS' ⟨_, hc, t_OB.to (V := updV (vp_V fs) k v) ⟨_, e1, q2, q3, t_set q4 hap hk v⟩ (fun j _ => vp_updV_set hl v j)⟩ e3 hfr) (hS0.put e2 e3 (hI.2 ki ii hlv))
theorem nw_iast (hexec : p.tables.exec = Jvm.exec) (hb : c.code = cc) (hK : va_K D cl tys s) (hN : nw D cl ad lv S H) (hI : nwI A ad lv) (hS : va_S A H0 H locs) {ki ii : Nat} (hlv : lv ki ii) (t0 : Nat) {cA : ClassId} {n : Nat} {f : Nat → Int32} (ha : S ki ii = .inl (cA, n, .inl f)) (ht : tys[t0]? = some (cA, .int)) {i : Int32} {x : Int32} (hin : vp_in i n)
    (hS' : S' ki ii = .inl (cA, n, .inl (upd f i.toNatClampNeg x))) (hfr : ∀ k' i', lv k' i' → ¬ (k' = ki ∧ i' = ii) → S' k' i' = S k' i') (hdg : decode cc pc = .ok (.iastore, 1))
    (kk : ∀ (H1 : Heap) (locs1 : List Loc), nw D cl ad lv S' H1 → va_S A H0 H1 locs1 → W p l e R s m args below meth c H1 locs1 cells slots Q (F0 m (pc + 1) ls rest)) : W p l e R s m args below meth c H locs cells slots Q (F0 m pc ls (.int x :: .int i :: .ref (ad ki ii) :: rest)) := by
  refine W.iast hexec hb (nw_one hN hlv ha 0 _ rfl) ((hK.2 t0 _ ht).1 n (fun j => .int (f j))) (fun q => by cases q) (by show ¬ (i < 0 ∨ (arrV _ _ _).slots.size ≤ _); rw [arrV_size]; exact hin) rfl rfl hdg fun H1 e z oq => ?_
  refine kk H1 _ (nw_set hN hI hlv hS' ?_ oq hfr) (hS.put z oq (hI.2 ki ii hlv))
  show H1[ad ki ii]? = some (vp_cell _ _)
  rw [e]
  rw [vp_cell_i, vp_cell_i, arrV_store]
  congr 2
  funext q
  by_cases hq : q = i.toNatClampNeg
  · subst hq
    simp [updV, upd]
  · simp [updV, upd, hq]
theorem nw_zast (hexec : p.tables.exec = Jvm.exec) (hb : c.code = cc) (hK : va_K D cl tys s) (hN : nw D cl ad lv S H) (hI : nwI A ad lv) (hS : va_S A H0 H locs) {ki ii : Nat} (hlv : lv ki ii) (t0 : Nat) {cA : ClassId} {n : Nat} {f : Nat → Int32} (ha : S ki ii = .inl (cA, n, .inl f)) (ht : tys[t0]? = some (cA, .boolean)) {i : Int32} {x : Int32} (hin : vp_in i n)
    (hS' : S' ki ii = .inl (cA, n, .inl (upd f i.toNatClampNeg (vp_nar .boolean x)))) (hfr : ∀ k' i', lv k' i' → ¬ (k' = ki ∧ i' = ii) → S' k' i' = S k' i') (hdg : decode cc pc = .ok (.bastore, 1))
    (kk : ∀ (H1 : Heap) (locs1 : List Loc), nw D cl ad lv S' H1 → va_S A H0 H1 locs1 → W p l e R s m args below meth c H1 locs1 cells slots Q (F0 m (pc + 1) ls rest)) : W p l e R s m args below meth c H locs cells slots Q (F0 m pc ls (.int x :: .int i :: .ref (ad ki ii) :: rest)) := by
  refine W.zast hexec hb (nw_one hN hlv ha 0 _ rfl) ((hK.2 t0 _ ht).1 n (fun j => .int (f j))) (fun q => by cases q) (by show ¬ (i < 0 ∨ (arrV _ _ _).slots.size ≤ _); rw [arrV_size]; exact hin) rfl rfl hdg fun H1 e z oq => ?_
  refine kk H1 _ (nw_set hN hI hlv hS' ?_ oq hfr) (hS.put z oq (hI.2 ki ii hlv))
  show H1[ad ki ii]? = some (vp_cell _ _)
  rw [e]
  rw [vp_cell_i, vp_cell_i, arrV_store]
  congr 2
  funext q
  by_cases hq : q = i.toNatClampNeg
  · subst hq
    simp [updV, upd, vp_nar]
    try rfl
  · simp [updV, upd, hq]
end NWR
/-! A world of numbers by (kind, place): what the pure part reads off the class. -/
abbrev MT : Type := Nat → Nat → Int32
