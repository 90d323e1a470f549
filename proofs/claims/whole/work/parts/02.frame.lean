/-! Pure pictures of methods: a guard, a name, a call, a loop with fuel; 'some r' is what the method answers. -/
def gd {α : Type} (b : Bool) (x : Option α) : Option α := if b = true then x else none
theorem gd_ok {α : Type} {b : Bool} {x : Option α} {r : α} (h : gd b x = some r) : b = true ∧ x = some r := by
  cases b with
  | true => exact ⟨rfl, h⟩
  | false => simp [gd] at h
theorem gd_t {α : Type} {b : Bool} {x : Option α} (h : b = true) : gd b x = x := by rw [h]; rfl
def bnd {α β : Type} (a : α) (f : α → β) : β := f a
theorem bnd_ok {α β : Type} {a x : α} {f : α → β} {r : β} (h : bnd a f = r) (e : x = a) : f x = r := by rw [e]; exact h
def cl1 {α ρ : Type} (o : Option α) (f : α → Option ρ) : Option ρ := match o with
  | some q => f q
  | none => none
theorem cl1_ok {α ρ : Type} {o : Option α} {f : α → Option ρ} {r : ρ} (h : cl1 o f = some r) : ∃ a, o = some a ∧ f a = some r := by
  cases o with
  | some q => exact ⟨q, rfl, h⟩
  | none => cases h
theorem cl1_s {α ρ : Type} (a : α) (f : α → Option ρ) : cl1 (some a) f = f a := rfl
def cl2 {α β ρ : Type} (o : Option (α × β)) (f : α → β → Option ρ) : Option ρ := match o with
  | some q => f q.1 q.2
  | none => none
theorem cl2_ok {α β ρ : Type} {o : Option (α × β)} {f : α → β → Option ρ} {r : ρ} (h : cl2 o f = some r) : ∃ a b, o = some (a, b) ∧ f a b = some r := by
  cases o with
  | some q => exact ⟨q.1, q.2, rfl, h⟩
  | none => cases h
theorem cl2_s {α β ρ : Type} (a : α) (b : β) (f : α → β → Option ρ) : cl2 (some (a, b)) f = f a b := rfl
theorem ite_t {α : Type} {c : Prop} [Decidable c] {a b r : α} (h : (if c then a else b) = r) (hc : c) : a = r := by rw [if_pos hc] at h; exact h
theorem ite_f {α : Type} {c : Prop} [Decidable c] {a b r : α} (h : (if c then a else b) = r) (hc : ¬ c) : b = r := by rw [if_neg hc] at h; exact h
def gin (i : Int32) (n : Nat) : Bool := decide (¬ (i < 0 ∨ n ≤ i.toNatClampNeg))
theorem gin_ok {i : Int32} {n : Nat} (h : gin i n = true) : vp_in i n := by
  have h2 : ¬ (i < 0 ∨ n ≤ i.toNatClampNeg) := of_decide_eq_true h
  exact h2
/-- 0 or 1 -/
def gbo (i : Int32) : Bool := decide (i = 0 ∨ i = 1)
theorem gbo_ok {i : Int32} (h : gbo i = true) : narrow .boolean (.int i) = .int i := by
  rcases of_decide_eq_true h with rfl | rfl <;> rfl
/-- the remainder -/
def irm (x y : Int32) : Int32 := x - x / y * y
def lf1 {A1 ρ : Type} (step : (A1 → Option ρ) → A1 → Option ρ) : Nat → A1 → Option ρ
  | 0 => fun _ => none
  | n + 1 => step (lf1 step n)
theorem lf1_s {A1 ρ : Type} (step : (A1 → Option ρ) → A1 → Option ρ) (n : Nat) (a1 : A1) : lf1 step (n + 1) a1 = step (lf1 step n) a1 := rfl
theorem lf1_ok {A1 ρ : Type} {step : (A1 → Option ρ) → A1 → Option ρ} {R : ρ} {P : A1 → Prop} (hs : ∀ k : A1 → Option ρ, (∀ (a1 : A1), k a1 = some R → P a1) → ∀ (a1 : A1), step k a1 = some R → P a1) : ∀ (n : Nat) (a1 : A1), lf1 step n a1 = some R → P a1
  | 0, _, h => by cases h
  | n + 1, a1, h => hs (lf1 step n) (lf1_ok hs n) a1 h
def lf2 {A1 A2 ρ : Type} (step : (A1 → A2 → Option ρ) → A1 → A2 → Option ρ) : Nat → A1 → A2 → Option ρ
  | 0 => fun _ _ => none
  | n + 1 => step (lf2 step n)
theorem lf2_s {A1 A2 ρ : Type} (step : (A1 → A2 → Option ρ) → A1 → A2 → Option ρ) (n : Nat) (a1 : A1) (a2 : A2) : lf2 step (n + 1) a1 a2 = step (lf2 step n) a1 a2 := rfl
theorem lf2_ok {A1 A2 ρ : Type} {step : (A1 → A2 → Option ρ) → A1 → A2 → Option ρ} {R : ρ} {P : A1 → A2 → Prop} (hs : ∀ k : A1 → A2 → Option ρ, (∀ (a1 : A1) (a2 : A2), k a1 a2 = some R → P a1 a2) → ∀ (a1 : A1) (a2 : A2), step k a1 a2 = some R → P a1 a2) : ∀ (n : Nat) (a1 : A1) (a2 : A2), lf2 step n a1 a2 = some R → P a1 a2
  | 0, _, _, h => by cases h
  | n + 1, a1, a2, h => hs (lf2 step n) (lf2_ok hs n) a1 a2 h
def lf3 {A1 A2 A3 ρ : Type} (step : (A1 → A2 → A3 → Option ρ) → A1 → A2 → A3 → Option ρ) : Nat → A1 → A2 → A3 → Option ρ
  | 0 => fun _ _ _ => none
  | n + 1 => step (lf3 step n)
theorem lf3_s {A1 A2 A3 ρ : Type} (step : (A1 → A2 → A3 → Option ρ) → A1 → A2 → A3 → Option ρ) (n : Nat) (a1 : A1) (a2 : A2) (a3 : A3) : lf3 step (n + 1) a1 a2 a3 = step (lf3 step n) a1 a2 a3 := rfl
theorem lf3_ok {A1 A2 A3 ρ : Type} {step : (A1 → A2 → A3 → Option ρ) → A1 → A2 → A3 → Option ρ} {R : ρ} {P : A1 → A2 → A3 → Prop} (hs : ∀ k : A1 → A2 → A3 → Option ρ, (∀ (a1 : A1) (a2 : A2) (a3 : A3), k a1 a2 a3 = some R → P a1 a2 a3) → ∀ (a1 : A1) (a2 : A2) (a3 : A3), step k a1 a2 a3 = some R → P a1 a2 a3) : ∀ (n : Nat) (a1 : A1) (a2 : A2) (a3 : A3), lf3 step n a1 a2 a3 = some R → P a1 a2 a3
  | 0, _, _, _, h => by cases h
  | n + 1, a1, a2, a3, h => hs (lf3 step n) (lf3_ok hs n) a1 a2 a3 h
def lf4 {A1 A2 A3 A4 ρ : Type} (step : (A1 → A2 → A3 → A4 → Option ρ) → A1 → A2 → A3 → A4 → Option ρ) : Nat → A1 → A2 → A3 → A4 → Option ρ
  | 0 => fun _ _ _ _ => none
  | n + 1 => step (lf4 step n)
theorem lf4_s {A1 A2 A3 A4 ρ : Type} (step : (A1 → A2 → A3 → A4 → Option ρ) → A1 → A2 → A3 → A4 → Option ρ) (n : Nat) (a1 : A1) (a2 : A2) (a3 : A3) (a4 : A4) : lf4 step (n + 1) a1 a2 a3 a4 = step (lf4 step n) a1 a2 a3 a4 := rfl
theorem lf4_ok {A1 A2 A3 A4 ρ : Type} {step : (A1 → A2 → A3 → A4 → Option ρ) → A1 → A2 → A3 → A4 → Option ρ} {R : ρ} {P : A1 → A2 → A3 → A4 → Prop} (hs : ∀ k : A1 → A2 → A3 → A4 → Option ρ, (∀ (a1 : A1) (a2 : A2) (a3 : A3) (a4 : A4), k a1 a2 a3 a4 = some R → P a1 a2 a3 a4) → ∀ (a1 : A1) (a2 : A2) (a3 : A3) (a4 : A4), step k a1 a2 a3 a4 = some R → P a1 a2 a3 a4) : ∀ (n : Nat) (a1 : A1) (a2 : A2) (a3 : A3) (a4 : A4), lf4 step n a1 a2 a3 a4 = some R → P a1 a2 a3 a4
  | 0, _, _, _, _, h => by cases h
  | n + 1, a1, a2, a3, a4, h => hs (lf4 step n) (lf4_ok hs n) a1 a2 a3 a4 h
def lf5 {A1 A2 A3 A4 A5 ρ : Type} (step : (A1 → A2 → A3 → A4 → A5 → Option ρ) → A1 → A2 → A3 → A4 → A5 → Option ρ) : Nat → A1 → A2 → A3 → A4 → A5 → Option ρ
  | 0 => fun _ _ _ _ _ => none
  | n + 1 => step (lf5 step n)
theorem lf5_s {A1 A2 A3 A4 A5 ρ : Type} (step : (A1 → A2 → A3 → A4 → A5 → Option ρ) → A1 → A2 → A3 → A4 → A5 → Option ρ) (n : Nat) (a1 : A1) (a2 : A2) (a3 : A3) (a4 : A4) (a5 : A5) : lf5 step (n + 1) a1 a2 a3 a4 a5 = step (lf5 step n) a1 a2 a3 a4 a5 := rfl
theorem lf5_ok {A1 A2 A3 A4 A5 ρ : Type} {step : (A1 → A2 → A3 → A4 → A5 → Option ρ) → A1 → A2 → A3 → A4 → A5 → Option ρ} {R : ρ} {P : A1 → A2 → A3 → A4 → A5 → Prop} (hs : ∀ k : A1 → A2 → A3 → A4 → A5 → Option ρ, (∀ (a1 : A1) (a2 : A2) (a3 : A3) (a4 : A4) (a5 : A5), k a1 a2 a3 a4 a5 = some R → P a1 a2 a3 a4 a5) → ∀ (a1 : A1) (a2 : A2) (a3 : A3) (a4 : A4) (a5 : A5), step k a1 a2 a3 a4 a5 = some R → P a1 a2 a3 a4 a5) : ∀ (n : Nat) (a1 : A1) (a2 : A2) (a3 : A3) (a4 : A4) (a5 : A5), lf5 step n a1 a2 a3 a4 a5 = some R → P a1 a2 a3 a4 a5
  | 0, _, _, _, _, _, h => by cases h
  | n + 1, a1, a2, a3, a4, a5, h => hs (lf5 step n) (lf5_ok hs n) a1 a2 a3 a4 a5 h
def lf6 {A1 A2 A3 A4 A5 A6 ρ : Type} (step : (A1 → A2 → A3 → A4 → A5 → A6 → Option ρ) → A1 → A2 → A3 → A4 → A5 → A6 → Option ρ) : Nat → A1 → A2 → A3 → A4 → A5 → A6 → Option ρ
  | 0 => fun _ _ _ _ _ _ => none
  | n + 1 => step (lf6 step n)
theorem lf6_s {A1 A2 A3 A4 A5 A6 ρ : Type} (step : (A1 → A2 → A3 → A4 → A5 → A6 → Option ρ) → A1 → A2 → A3 → A4 → A5 → A6 → Option ρ) (n : Nat) (a1 : A1) (a2 : A2) (a3 : A3) (a4 : A4) (a5 : A5) (a6 : A6) : lf6 step (n + 1) a1 a2 a3 a4 a5 a6 = step (lf6 step n) a1 a2 a3 a4 a5 a6 := rfl
theorem lf6_ok {A1 A2 A3 A4 A5 A6 ρ : Type} {step : (A1 → A2 → A3 → A4 → A5 → A6 → Option ρ) → A1 → A2 → A3 → A4 → A5 → A6 → Option ρ} {R : ρ} {P : A1 → A2 → A3 → A4 → A5 → A6 → Prop} (hs : ∀ k : A1 → A2 → A3 → A4 → A5 → A6 → Option ρ, (∀ (a1 : A1) (a2 : A2) (a3 : A3) (a4 : A4) (a5 : A5) (a6 : A6), k a1 a2 a3 a4 a5 a6 = some R → P a1 a2 a3 a4 a5 a6) → ∀ (a1 : A1) (a2 : A2) (a3 : A3) (a4 : A4) (a5 : A5) (a6 : A6), step k a1 a2 a3 a4 a5 a6 = some R → P a1 a2 a3 a4 a5 a6) : ∀ (n : Nat) (a1 : A1) (a2 : A2) (a3 : A3) (a4 : A4) (a5 : A5) (a6 : A6), lf6 step n a1 a2 a3 a4 a5 a6 = some R → P a1 a2 a3 a4 a5 a6
  | 0, _, _, _, _, _, _, h => by cases h
  | n + 1, a1, a2, a3, a4, a5, a6, h => hs (lf6 step n) (lf6_ok hs n) a1 a2 a3 a4 a5 a6 h
def lf7 {A1 A2 A3 A4 A5 A6 A7 ρ : Type} (step : (A1 → A2 → A3 → A4 → A5 → A6 → A7 → Option ρ) → A1 → A2 → A3 → A4 → A5 → A6 → A7 → Option ρ) : Nat → A1 → A2 → A3 → A4 → A5 → A6 → A7 → Option ρ
  | 0 => fun _ _ _ _ _ _ _ => none
  | n + 1 => step (lf7 step n)
theorem lf7_s {A1 A2 A3 A4 A5 A6 A7 ρ : Type} (step : (A1 → A2 → A3 → A4 → A5 → A6 → A7 → Option ρ) → A1 → A2 → A3 → A4 → A5 → A6 → A7 → Option ρ) (n : Nat) (a1 : A1) (a2 : A2) (a3 : A3) (a4 : A4) (a5 : A5) (a6 : A6) (a7 : A7) : lf7 step (n + 1) a1 a2 a3 a4 a5 a6 a7 = step (lf7 step n) a1 a2 a3 a4 a5 a6 a7 := rfl
theorem lf7_ok {A1 A2 A3 A4 A5 A6 A7 ρ : Type} {step : (A1 → A2 → A3 → A4 → A5 → A6 → A7 → Option ρ) → A1 → A2 → A3 → A4 → A5 → A6 → A7 → Option ρ} {R : ρ} {P : A1 → A2 → A3 → A4 → A5 → A6 → A7 → Prop} (hs : ∀ k : A1 → A2 → A3 → A4 → A5 → A6 → A7 → Option ρ, (∀ (a1 : A1) (a2 : A2) (a3 : A3) (a4 : A4) (a5 : A5) (a6 : A6) (a7 : A7), k a1 a2 a3 a4 a5 a6 a7 = some R → P a1 a2 a3 a4 a5 a6 a7) → ∀ (a1 : A1) (a2 : A2) (a3 : A3) (a4 : A4) (a5 : A5) (a6 : A6) (a7 : A7), step k a1 a2 a3 a4 a5 a6 a7 = some R → P a1 a2 a3 a4 a5 a6 a7) : ∀ (n : Nat) (a1 : A1) (a2 : A2) (a3 : A3) (a4 : A4) (a5 : A5) (a6 : A6) (a7 : A7), lf7 step n a1 a2 a3 a4 a5 a6 a7 = some R → P a1 a2 a3 a4 a5 a6 a7
  | 0, _, _, _, _, _, _, _, h => by cases h
  | n + 1, a1, a2, a3, a4, a5, a6, a7, h => hs (lf7 step n) (lf7_ok hs n) a1 a2 a3 a4 a5 a6 a7 h
def lf8 {A1 A2 A3 A4 A5 A6 A7 A8 ρ : Type} (step : (A1 → A2 → A3 → A4 → A5 → A6 → A7 → A8 → Option ρ) → A1 → A2 → A3 → A4 → A5 → A6 → A7 → A8 → Option ρ) : Nat → A1 → A2 → A3 → A4 → A5 → A6 → A7 → A8 → Option ρ
  | 0 => fun _ _ _ _ _ _ _ _ => none
  | n + 1 => step (lf8 step n)
theorem lf8_s {A1 A2 A3 A4 A5 A6 A7 A8 ρ : Type} (step : (A1 → A2 → A3 → A4 → A5 → A6 → A7 → A8 → Option ρ) → A1 → A2 → A3 → A4 → A5 → A6 → A7 → A8 → Option ρ) (n : Nat) (a1 : A1) (a2 : A2) (a3 : A3) (a4 : A4) (a5 : A5) (a6 : A6) (a7 : A7) (a8 : A8) : lf8 step (n + 1) a1 a2 a3 a4 a5 a6 a7 a8 = step (lf8 step n) a1 a2 a3 a4 a5 a6 a7 a8 := rfl
theorem lf8_ok {A1 A2 A3 A4 A5 A6 A7 A8 ρ : Type} {step : (A1 → A2 → A3 → A4 → A5 → A6 → A7 → A8 → Option ρ) → A1 → A2 → A3 → A4 → A5 → A6 → A7 → A8 → Option ρ} {R : ρ} {P : A1 → A2 → A3 → A4 → A5 → A6 → A7 → A8 → Prop} (hs : ∀ k : A1 → A2 → A3 → A4 → A5 → A6 → A7 → A8 → Option ρ, (∀ (a1 : A1) (a2 : A2) (a3 : A3) (a4 : A4) (a5 : A5) (a6 : A6) (a7 : A7) (a8 : A8), k a1 a2 a3 a4 a5 a6 a7 a8 = some R → P a1 a2 a3 a4 a5 a6 a7 a8) → ∀ (a1 : A1) (a2 : A2) (a3 : A3) (a4 : A4) (a5 : A5) (a6 : A6) (a7 : A7) (a8 : A8), step k a1 a2 a3 a4 a5 a6 a7 a8 = some R → P a1 a2 a3 a4 a5 a6 a7 a8) : ∀ (n : Nat) (a1 : A1) (a2 : A2) (a3 : A3) (a4 : A4) (a5 : A5) (a6 : A6) (a7 : A7) (a8 : A8), lf8 step n a1 a2 a3 a4 a5 a6 a7 a8 = some R → P a1 a2 a3 a4 a5 a6 a7 a8
  | 0, _, _, _, _, _, _, _, _, h => by cases h
  | n + 1, a1, a2, a3, a4, a5, a6, a7, a8, h => hs (lf8 step n) (lf8_ok hs n) a1 a2 a3 a4 a5 a6 a7 a8 h
/-! Cells by names (kind, number): a world is what the named cells hold. -/
def nw (D : va_G) (cl : List vw_C) (ad : Nat → Nat → Nat) (lv : Nat → Nat → Prop) (S : Nat → Nat → va_E) (H : Heap) : Prop := ∀ k i, lv k i → va_at D cl (ad k i, S k i) H
def nwI (A : Nat → Prop) (ad : Nat → Nat → Nat) (lv : Nat → Nat → Prop) : Prop := (∀ k i k' i', lv k i → lv k' i' → ad k i = ad k' i' → k = k' ∧ i = i') ∧ ∀ k i, lv k i → A (ad k i)
theorem nw_one {D : va_G} {cl : List vw_C} {ad : Nat → Nat → Nat} {lv : Nat → Nat → Prop} {S : Nat → Nat → va_E} {H : Heap} (h : nw D cl ad lv S H) {k i : Nat} (hl : lv k i) {e : va_E} (he : S k i = e) : va_P D cl [(ad k i, e)] H := by
  intro j q hq
  have hz : j < 1 := (List.getElem?_eq_some_iff.mp hq).1
  rw [show j = 0 by omega] at hq
  cases hq
  rw [← he]
  exact h k i hl
theorem nw_set {D : va_G} {cl : List vw_C} {A : Nat → Prop} {ad : Nat → Nat → Nat} {lv : Nat → Nat → Prop} {S S' : Nat → Nat → va_E} {H H1 : Heap} (h : nw D cl ad lv S H) (hI : nwI A ad lv) {k i : Nat} (hl : lv k i) {e : va_E} (he : S' k i = e) (h1 : va_at D cl (ad k i, e) H1) (oq : ∀ q : Nat, q ≠ ad k i → H1[q]? = H[q]?) (hfr : ∀ k' i', lv k' i' → ¬ (k' = k ∧ i' = i) → S' k' i' = S k' i') : nw D cl ad lv S' H1 := by
  intro k' i' hl'
  by_cases hk : k' = k ∧ i' = i
  · obtain ⟨rfl, rfl⟩ := hk
    rw [he]
    exact h1
  · rw [hfr k' i' hl' hk]
    exact (h k' i' hl').kept (oq _ (fun z => hk (hI.1 k' i' k i hl' hl z)))
theorem va_D1 {A : Nat → Prop} {q : Nat × va_E} (h : A q.1) : va_D A [q] := by
  refine ⟨fun i j x y hi hj _ => ?_, fun k x hk => ?_⟩
  · have h1 : i < 1 := (List.getElem?_eq_some_iff.mp hi).1
    have h2 : j < 1 := (List.getElem?_eq_some_iff.mp hj).1
    omega
  · have h1 : k < 1 := (List.getElem?_eq_some_iff.mp hk).1
    rw [show k = 0 by omega] at hk
    cases hk
    exact h
section NWR
variable {p : Program} {l : Launch} {e : Env} {R : Room} {s : State} {m : MethodId} {args : Array Value} {below : List Frame} {meth : Method} {c : Code} {H : Heap} {locs : List Loc} {cells slots : Nat} {Q : State → Prop}
variable {cc : ByteArray} {pc : Nat} {ls : Array Slot} {rest : List Value} {D : va_G} {cl : List vw_C} {A : Nat → Prop} {tys : List (ClassId × FieldType)} {H0 : Heap} {ad : Nat → Nat → Nat} {lv : Nat → Nat → Prop} {S S' : Nat → Nat → va_E}
theorem lv_irm (hexec : p.tables.exec = Jvm.exec) (hb : c.code = cc) {x y : Int32} (hdg : decode cc pc = .ok (.irem, 1)) (hne : ¬ y = 0)
    (k : W p l e R s m args below meth c H locs cells slots Q (F0 m (pc + 1) ls (.int (irm x y) :: rest))) : W p l e R s m args below meth c H locs cells slots Q (F0 m pc ls (.int y :: .int x :: rest)) := lv_irem hexec hb hdg hne k
theorem nw_put (hexec : p.tables.exec = Jvm.exec) (hb : c.code = cc) {own ref C : String} {T : u_T} {N ci index : Nat} {Ts : List Cond} (hts : ∀ w ∈ Ts, w.before args s = true) (hin : ∀ w ∈ u_ws C T N, w ∈ Ts) (ty0 : Nat → FieldType) (hty : ∀ k, k < N → parseFieldDescriptor (T k).2.2.1 = some (ty0 k)) (hnm : ∀ a, a < N → ∀ b, b < N → a ≠ b → (T a).2.1 ≠ (T b).2.1) (hown : s.vm.findClass own = some m.cls) (hK : va_K D cl tys s) (hN : nw D cl ad lv S H) (hI : nwI A ad lv) (hS0 : va_S A H0 H locs) {ki ii : Nat} (hlv : lv ki ii) {fs : List Value} (he : S ki ii = .inr (ci, fs)) (hc : cl[ci]? = some (C, T, N)) (k : Nat) (hk : k < N) (hlink : (Cond.fieldLink own index ref (T k).2.1 (T k).2.2.1).before args s = true) (hsame : ∀ x, s.fieldFound? (T k).1 (T k).2.1 (T k).2.2.1 = some x → s.fieldFound? ref (T k).2.1 (T k).2.2.1 = some x) (hfin : (T k).2.2.2 = false) {ty : FieldType} {v : Value} (hd : parseFieldDescriptor (T k).2.2.1 = some ty) (hn : narrow ty v = v) (hfit : fits ty v = true) (hl : k < fs.length)
    (hS' : S' ki ii = .inr (ci, fs.set k v)) (hfr : ∀ k' i', lv k' i' → ¬ (k' = ki ∧ i' = ii) → S' k' i' = S k' i')
    (hdg : decode cc pc = .ok (.putfield index, 3)) (kk : ∀ (H1 : Heap) (locs1 : List Loc), nw D cl ad lv S' H1 → va_S A H0 H1 locs1 → W p l e R s m args below meth c H1 locs1 cells slots Q (F0 m (pc + 3) ls rest)) : W p l e R s m args below meth c H locs cells slots Q (F0 m pc ls (v :: .ref (ad ki ii) :: rest)) := by
  have hap := va_apart (own := own) hts hin ty0 hty hnm hK hc
  obtain ⟨r, h1, cell, q1, q2, q3, q4⟩ := nw_one hN hlv he 0 _ rfl
  have hr : r = (C, T, N) := Option.some.inj (h1.symm.trans hc)
  subst hr
  obtain ⟨hS, hfc, kC, hkC, hkind⟩ := hK.1 ci _ hc
  obtain ⟨cf, kf, fi, f, hi, hsl⟩ := hS k hk
  have hlay := hts _ (hin _ (u_in_lay hk))
  unfold u_lay at hlay
  rw [if_neg (by rw [hfin]; decide)] at hlay
  have hst := (u_facts hfc hkC (u_lays hts hin hk) hi).1
  have h6 := u_store hfc hkC hkind hlay hi hd hn hfit
  refine W.putK hexec hb (f := f) ⟨hown, hlink, ⟨_, _, _, hsame _ hi⟩, hst⟩ (by rw [q2]; exact h6) q1 q3 (by rw [hsl]; exact k2_hasslot (q4 k hk)) rfl rfl hdg fun H' e1 e2 e3 => ?_
  rw [hsl] at e1 ⊢
  exact kk H' _ (nw_set hN hI hlv hS' ⟨_, hc, t_OB.to (V := updV (vp_V fs) k v) ⟨_, e1, q2, q3, t_set q4 hap hk v⟩ (fun j _ => vp_updV_set hl v j)⟩ e3 hfr) (hS0.put e2 e3 (hI.2 ki ii hlv))
theorem nw_iast (hexec : p.tables.exec = Jvm.exec) (hb : c.code = cc) (hK : va_K D cl tys s) (hN : nw D cl ad lv S H) (hI : nwI A ad lv) (hS : va_S A H0 H locs) {ki ii : Nat} (hlv : lv ki ii) (t0 : Nat) {cA : ClassId} {n : Nat} {f : Nat → Int32} (ha : S ki ii = .inl (cA, n, .inl f)) (ht : tys[t0]? = some (cA, .int)) {i : Int32} {x : Int32} (hin : vp_in i n)
    (hS' : S' ki ii = .inl (cA, n, .inl (upd f i.toNatClampNeg x))) (hfr : ∀ k' i', lv k' i' → ¬ (k' = ki ∧ i' = ii) → S' k' i' = S k' i') (hdg : decode cc pc = .ok (.iastore, 1))
    (kk : ∀ (H1 : Heap) (locs1 : List Loc), nw D cl ad lv S' H1 → va_S A H0 H1 locs1 → W p l e R s m args below meth c H1 locs1 cells slots Q (F0 m (pc + 1) ls rest)) : W p l e R s m args below meth c H locs cells slots Q (F0 m pc ls (.int x :: .int i :: .ref (ad ki ii) :: rest)) := by
  refine W.iast hexec hb (nw_one hN hlv ha 0 _ rfl) ((hK.2 t0 _ ht).1 n (fun j => .int (f j))) (fun q => by cases q) (by show ¬ (i < 0 ∨ (arrV _ _ _).slots.size ≤ _); rw [arrV_size]; exact hin) rfl rfl hdg fun H1 e z oq => ?_
  refine kk H1 _ (nw_set hN hI hlv hS' ?_ oq hfr) (hS.put z oq (hI.2 ki ii hlv))
  show H1[ad ki ii]? = some (vp_cell _ _)
  rw [e]
  rw [vp_cell_i, vp_cell_i, arrV_store]
  congr 2
  funext q
  by_cases hq : q = i.toNatClampNeg
  · subst hq
    simp [updV, upd]
  · simp [updV, upd, hq]
theorem nw_zast (hexec : p.tables.exec = Jvm.exec) (hb : c.code = cc) (hK : va_K D cl tys s) (hN : nw D cl ad lv S H) (hI : nwI A ad lv) (hS : va_S A H0 H locs) {ki ii : Nat} (hlv : lv ki ii) (t0 : Nat) {cA : ClassId} {n : Nat} {f : Nat → Int32} (ha : S ki ii = .inl (cA, n, .inl f)) (ht : tys[t0]? = some (cA, .boolean)) {i : Int32} {x : Int32} (hin : vp_in i n)
    (hS' : S' ki ii = .inl (cA, n, .inl (upd f i.toNatClampNeg (vp_nar .boolean x)))) (hfr : ∀ k' i', lv k' i' → ¬ (k' = ki ∧ i' = ii) → S' k' i' = S k' i') (hdg : decode cc pc = .ok (.bastore, 1))
    (kk : ∀ (H1 : Heap) (locs1 : List Loc), nw D cl ad lv S' H1 → va_S A H0 H1 locs1 → W p l e R s m args below meth c H1 locs1 cells slots Q (F0 m (pc + 1) ls rest)) : W p l e R s m args below meth c H locs cells slots Q (F0 m pc ls (.int x :: .int i :: .ref (ad ki ii) :: rest)) := by
  refine W.zast hexec hb (nw_one hN hlv ha 0 _ rfl) ((hK.2 t0 _ ht).1 n (fun j => .int (f j))) (fun q => by cases q) (by show ¬ (i < 0 ∨ (arrV _ _ _).slots.size ≤ _); rw [arrV_size]; exact hin) rfl rfl hdg fun H1 e z oq => ?_
  refine kk H1 _ (nw_set hN hI hlv hS' ?_ oq hfr) (hS.put z oq (hI.2 ki ii hlv))
  show H1[ad ki ii]? = some (vp_cell _ _)
  rw [e]
  rw [vp_cell_i, vp_cell_i, arrV_store]
  congr 2
  funext q
  by_cases hq : q = i.toNatClampNeg
  · subst hq
    simp [updV, upd, vp_nar]
    try rfl
  · simp [updV, upd, hq]
end NWR
/-! The model's world: M k is the array of its k-th field (24 of them), or the k-th field's number (5 of them). -/
abbrev MT : Type := Nat → Nat → Int32
def mObj (ad : Nat → Nat) (M : MT) : List Value := [.int (M 0 0), .int (M 1 0), .int (M 2 0), .int (M 3 0), .ref (ad 4), .ref (ad 5), .ref (ad 6), .ref (ad 7), .ref (ad 8), .ref (ad 9), .int (M 10 0), .ref (ad 11), .ref (ad 12), .ref (ad 13), .ref (ad 14), .ref (ad 15), .ref (ad 16), .ref (ad 17), .ref (ad 18), .ref (ad 19), .ref (ad 20), .ref (ad 21), .ref (ad 22), .ref (ad 23), .ref (ad 24), .ref (ad 25), .ref (ad 26), .ref (ad 27), .ref (ad 28)]
def mArr (k : Nat) : Bool := decide (4 ≤ k) && decide (k ≤ 28) && decide (k ≠ 10)
def mLen : Nat → Nat := fun k => match k with
  | 4 => 24 | 5 => 24 | 6 => 24 | 7 => 4 | 8 => 4 | 9 => 4 | 11 => 16 | 12 => 16 | 13 => 16 | 14 => 16 | 15 => 4 | 16 => 32 | 17 => 4 | 18 => 96 | 19 => 192 | 20 => 8 | 26 => 20 | 27 => 48 | 28 => 6
  | _ => 4
def mCl (cI cZ : ClassId) (k : Nat) : ClassId := if k = 6 ∨ k = 9 ∨ k = 22 then cZ else cI
def mS (ad : Nat → Nat) (cI cZ : ClassId) (M : MT) (k : Nat) (_ : Nat) : va_E := if k = 0 then .inr (8, mObj ad M) else .inl (mCl cI cZ k, mLen k, .inl (M k))
def mLv (k i : Nat) : Prop := i = 0 ∧ (k = 0 ∨ mArr k = true)
def mA (ad : Nat → Nat) : Nat → Prop := fun q => ∃ k, (k = 0 ∨ mArr k = true) ∧ q = ad k
def mI (ad : Nat → Nat) : Prop := ∀ k k', (k = 0 ∨ mArr k = true) → (k' = 0 ∨ mArr k' = true) → ad k = ad k' → k = k'
def mN (D : va_G) (ad : Nat → Nat) (cI cZ : ClassId) (M : MT) (H : Heap) : Prop := nw D vwCl (fun k _ => ad k) mLv (mS ad cI cZ M) H
def mK (D : va_G) (cI cZ : ClassId) (U : State) : Prop := va_K D vwCl [(cI, .int), (cZ, .boolean)] U
theorem mI_nw {ad : Nat → Nat} (h : mI ad) : nwI (mA ad) (fun k _ => ad k) mLv := ⟨fun k i k' i' hk hk' e => ⟨h k k' hk.2 hk'.2 e, by rw [hk.1, hk'.1]⟩, fun k _ hk => ⟨k, hk.2, rfl⟩⟩
theorem mObj_up {ad : Nat → Nat} {M : MT} {k : Nat} {f : Nat → Int32} (h : mArr k = true) : mObj ad (va_up M k f) = mObj ad M := by
  simp only [mArr, Bool.and_eq_true, decide_eq_true_eq] at h
  obtain ⟨⟨h4, -⟩, h10⟩ := h
  unfold mObj va_up
  rw [if_neg (show ¬ 0 = k by omega), if_neg (show ¬ 1 = k by omega), if_neg (show ¬ 2 = k by omega), if_neg (show ¬ 3 = k by omega), if_neg (show ¬ 10 = k by omega)]
theorem mS_up {ad : Nat → Nat} {cI cZ : ClassId} {M : MT} {k : Nat} {f : Nat → Int32} (h : mArr k = true) : ∀ k' i', mLv k' i' → ¬ (k' = k ∧ i' = 0) → mS ad cI cZ (va_up M k f) k' i' = mS ad cI cZ M k' i' := by
  intro k' i' hl hn
  have hk : k' ≠ k := fun e => hn ⟨e, hl.1⟩
  unfold mS
  by_cases h0 : k' = 0
  · rw [if_pos h0, if_pos h0, mObj_up h]
  · rw [if_neg h0, if_neg h0]
    show _ = Sum.inl (mCl cI cZ k', mLen k', Sum.inl (M k'))
    unfold va_up
    rw [if_neg hk]
theorem mS_at {ad : Nat → Nat} {cI cZ : ClassId} {M : MT} {k : Nat} (h : mArr k = true) : mS ad cI cZ M k 0 = .inl (mCl cI cZ k, mLen k, .inl (M k)) := by
  unfold mS
  rw [if_neg]
  intro e
  subst e
  cases h
theorem mS_upat {ad : Nat → Nat} {cI cZ : ClassId} {M : MT} {k : Nat} {f : Nat → Int32} (h : mArr k = true) : mS ad cI cZ (va_up M k f) k 0 = .inl (mCl cI cZ k, mLen k, .inl f) := by
  rw [mS_at h]
  unfold va_up
  rw [if_pos rfl]
theorem mS_sc {ad : Nat → Nat} {cI cZ : ClassId} {M : MT} {k : Nat} {f : Nat → Int32} (h : mArr k = false) : ∀ k' i', mLv k' i' → ¬ (k' = 0 ∧ i' = 0) → mS ad cI cZ (va_up M k f) k' i' = mS ad cI cZ M k' i' := by
  intro k' i' hl hn
  have h0 : k' ≠ 0 := fun e => hn ⟨e, hl.1⟩
  have ha : mArr k' = true := hl.2.resolve_left h0
  have hk : k' ≠ k := fun e => by subst e; rw [ha] at h; cases h
  unfold mS
  rw [if_neg h0, if_neg h0]
  unfold va_up
  rw [if_neg hk]
def mP (D : va_G) (ad : Nat → Nat) (cI cZ : ClassId) (M : MT) (U : State) : Prop := mI ad ∧ mN D ad cI cZ M U.heap ∧ mK D cI cZ U
def mQi (D : va_G) (ad : Nat → Nat) (cI cZ : ClassId) (r : Int32) (M' : MT) : Array Value → State → Outcome → State → Prop := va_Qi (fun (r' : Int32) (u : MT) => r' = r ∧ u = M') (fun u t => mP D ad cI cZ u t) (mA ad)
def mQv (D : va_G) (ad : Nat → Nat) (cI cZ : ClassId) (M' : MT) : Array Value → State → Outcome → State → Prop := va_Qv (fun (u : MT) => u = M') (fun u t => mP D ad cI cZ u t) (mA ad)
theorem mK.moved {D : va_G} {cI cZ : ClassId} {u U : State} (hvm : u.vm.Alike U.vm) (h : mK D cI cZ u) : mK D cI cZ U := va_K.moved hvm h
theorem mP_call {D : va_G} {ad : Nat → Nat} {cI cZ : ClassId} {M : MT} {as : List Value} : FrameBlind (va_Pc as (mP D ad cI cZ M)) := fun a U g mk q => ⟨q.1, q.2.1, q.2.2.1, va_K.moved (u := U) (U := U.calling g mk a) (Vm.Alike.refl U.vm) q.2.2.2⟩
section MG
variable {p : Program} {l : Launch} {e : Env} {R : Room} {s : State} {m : MethodId} {args : Array Value} {below : List Frame} {meth : Method} {c : Code} {H : Heap} {locs : List Loc} {cells slots : Nat} {Q : State → Prop}
variable {cc : ByteArray} {pc : Nat} {ls : Array Slot} {rest : List Value} {D : va_G} {ad : Nat → Nat} {cI cZ : ClassId} {M M' : MT} {H0 : Heap} {Ts : List Cond}
theorem mg_preV {as : List Value} (hI : mI ad) (hK : mK D cI cZ s) (hN : mN D ad cI cZ M H) : PreV s H RX7 (ad 0) (va_Pc (.ref (ad 0) :: as) (mP D ad cI cZ M)) as :=
  ⟨mP_call, va_recv (q := (RX7, TX7, 29)) hK (nw_one hN (k := 0) (i := 0) ⟨rfl, Or.inl rfl⟩ rfl) (ci := 8) (q0 := 0) rfl rfl, fun U hU hW => ⟨rfl, hI, by rw [hU]; exact hN, hK.moved hW.alike⟩⟩
theorem mg_preS {as : List Value} (hI : mI ad) (hK : mK D cI cZ s) (hN : mN D ad cI cZ M H) : PreS s H (va_Pc as (mP D ad cI cZ M)) as :=
  ⟨mP_call, fun U hU hW => ⟨rfl, hI, by rw [hU]; exact hN, hK.moved hW.alike⟩⟩
theorem mg_calli {r : Int32} {a : Array Value} {st0 : List Value} (hr : va_Run p l e R s m args below meth c H locs cells slots 0 0 (F0 m pc ls st0) rest (mQi D ad cI cZ r M' a) (mA ad)) (hS : va_S (mA ad) H0 H locs)
    (kk : ∀ (H1 : Heap) (locs1 : List Loc), mN D ad cI cZ M' H1 → va_S (mA ad) H0 H1 locs1 → W p l e R s m args below meth c H1 locs1 cells slots Q (F0 m (pc + 3) ls (.int r :: rest))) : W p l e R s m args below meth c H locs cells slots Q (F0 m pc ls st0) := by
  refine va_calli hr hS (fun _ _ h => h) (fun _ h => h) (fun r' u t H1 locs1 ht hvm hw hB hz hk hS1 => ?_)
  obtain ⟨rfl, rfl⟩ := hw
  exact kk H1 locs1 (by rw [← ht]; exact hB.2.1) hS1
theorem mg_callv {a : Array Value} {st0 : List Value} (hr : va_Run p l e R s m args below meth c H locs cells slots 0 0 (F0 m pc ls st0) rest (mQv D ad cI cZ M' a) (mA ad)) (hS : va_S (mA ad) H0 H locs)
    (kk : ∀ (H1 : Heap) (locs1 : List Loc), mN D ad cI cZ M' H1 → va_S (mA ad) H0 H1 locs1 → W p l e R s m args below meth c H1 locs1 cells slots Q (F0 m (pc + 3) ls rest)) : W p l e R s m args below meth c H locs cells slots Q (F0 m pc ls st0) := by
  refine va_callv hr hS (fun _ _ h => h) (fun _ h => h) (fun u t H1 locs1 ht hvm hw hB hz hk hS1 => ?_)
  obtain rfl := hw
  exact kk H1 locs1 (by rw [← ht]; exact hB.2.1) hS1
theorem mg_endi {rv v : Int32} {M1 : MT} (h : some (rv, M1) = some (v, M')) (hI : mI ad) (hK : mK D cI cZ s) (hN : mN D ad cI cZ M1 H) (hS : va_S (mA ad) s.heap H locs) (t : State) (ht : t.heap = H) (hW : s.WarmedH t.vm) : mQi D ad cI cZ v M' args s (.returned (some (.int rv))) t := by
  cases h
  exact ⟨⟨_, _, rfl, ⟨rfl, rfl⟩, hI, by rw [ht]; exact hN, hK.moved hW.alike⟩, hS.F ht⟩
theorem mg_endr {rv v : Int32} (h : some rv = some v) (hI : mI ad) (hK : mK D cI cZ s) (hN : mN D ad cI cZ M H) (hS : va_S (mA ad) s.heap H locs) (t : State) (ht : t.heap = H) (hW : s.WarmedH t.vm) : mQi D ad cI cZ v M args s (.returned (some (.int rv))) t := by
  cases h
  exact ⟨⟨_, _, rfl, ⟨rfl, rfl⟩, hI, by rw [ht]; exact hN, hK.moved hW.alike⟩, hS.F ht⟩
theorem mg_endv {M1 : MT} (h : some M1 = some M') (hI : mI ad) (hK : mK D cI cZ s) (hN : mN D ad cI cZ M1 H) (hS : va_S (mA ad) s.heap H locs) (t : State) (ht : t.heap = H) (hW : s.WarmedH t.vm) : mQv D ad cI cZ M' args s (.returned none) t := by
  cases h
  exact ⟨⟨_, rfl, rfl, hI, by rw [ht]; exact hN, hK.moved hW.alike⟩, hS.F ht⟩
theorem mg_get {index : Nat} (hx : p.tables.exec = Jvm.exec) (hb : c.code = cc) (hts : ∀ w ∈ Ts, w.before args s = true) (hin : ∀ w ∈ wsX70, w ∈ Ts) (hown : s.vm.findClass RX7 = some m.cls) (hK : mK D cI cZ s) (hN : mN D ad cI cZ M H) (k : Nat) (hk : k < 29) (hlink : (Cond.fieldLink RX7 index RX7 (TX7 k).2.1 (TX7 k).2.2.1).before args s = true) (hnm : (TX7 k).1 = RX7) {v : Value} (hv : (mObj ad M)[k]? = some v) (hdg : decode cc pc = .ok (.getfield index, 3))
    (kk : W p l e R s m args below meth c H locs cells slots Q (F0 m (pc + 3) ls (v :: rest))) : W p l e R s m args below meth c H locs cells slots Q (F0 m pc ls (.ref (ad 0) :: rest)) :=
  va_get (D := D) (cl := vwCl) (ci := 8) (C := RX7) (T := TX7) (N := 29) hx hb hts hin hown hK (nw_one hN (k := 0) (i := 0) ⟨rfl, Or.inl rfl⟩ rfl) 0 rfl rfl k hk hlink (by rw [hnm]; exact fun _ h => h) hv hdg kk
theorem mg_put {index : Nat} {x : Int32} (hx : p.tables.exec = Jvm.exec) (hb : c.code = cc) (hts : ∀ w ∈ Ts, w.before args s = true) (hin : ∀ w ∈ wsX70, w ∈ Ts) (hown : s.vm.findClass RX7 = some m.cls) (hI : mI ad) (hK : mK D cI cZ s) (hN : mN D ad cI cZ M H) (hS : va_S (mA ad) H0 H locs) (k : Nat) (hk : k < 29) (hka : mArr k = false) (hlink : (Cond.fieldLink RX7 index RX7 (TX7 k).2.1 (TX7 k).2.2.1).before args s = true) (hnm : (TX7 k).1 = RX7) (hfin : (TX7 k).2.2.2 = false) (hd : parseFieldDescriptor (TX7 k).2.2.1 = some .int) (hset : mObj ad (va_up M k (fun _ => x)) = (mObj ad M).set k (.int x)) (hdg : decode cc pc = .ok (.putfield index, 3))
    (hM : M' = va_up M k (fun _ => x))
    (kk : ∀ (H1 : Heap) (locs1 : List Loc), mN D ad cI cZ M' H1 → va_S (mA ad) H0 H1 locs1 → W p l e R s m args below meth c H1 locs1 cells slots Q (F0 m (pc + 3) ls rest)) : W p l e R s m args below meth c H locs cells slots Q (F0 m pc ls (.int x :: .ref (ad 0) :: rest)) := by
  subst hM
  exact nw_put (D := D) (cl := vwCl) (ci := 8) (C := RX7) (T := TX7) (N := 29) (ad := fun k _ => ad k) (ki := 0) (ii := 0) (S := mS ad cI cZ M) (S' := mS ad cI cZ (va_up M k (fun _ => x))) hx hb hts hin tyX7 tyX7_ok nmX7 hown hK hN (mI_nw hI) hS ⟨rfl, Or.inl rfl⟩ rfl rfl k hk hlink (by rw [hnm]; exact fun _ h => h) hfin hd rfl rfl hk (by show Sum.inr (8, mObj ad _) = _; rw [hset]) (mS_sc hka) hdg kk
theorem mg_ild (hx : p.tables.exec = Jvm.exec) (hb : c.code = cc) (hK : mK D cI cZ s) (hN : mN D ad cI cZ M H) (k : Nat) (hk : mArr k = true) (hc : mCl cI cZ k = cI) {i : Int32} (hin : vp_in i (mLen k)) (hdg : decode cc pc = .ok (.iaload, 1))
    (kk : W p l e R s m args below meth c H locs cells slots Q (F0 m (pc + 1) ls (.int (M k i.toNatClampNeg) :: rest))) : W p l e R s m args below meth c H locs cells slots Q (F0 m pc ls (.int i :: .ref (ad k) :: rest)) :=
  va_iald (D := D) (cl := vwCl) hx hb hK (nw_one hN (k := k) (i := 0) ⟨rfl, Or.inr hk⟩ ((mS_at hk).trans (by rw [hc]))) 0 0 rfl rfl hin hdg kk
theorem mg_zld (hx : p.tables.exec = Jvm.exec) (hb : c.code = cc) (hK : mK D cI cZ s) (hN : mN D ad cI cZ M H) (k : Nat) (hk : mArr k = true) (hc : mCl cI cZ k = cZ) {i : Int32} (hin : vp_in i (mLen k)) (hdg : decode cc pc = .ok (.baload, 1))
    (kk : W p l e R s m args below meth c H locs cells slots Q (F0 m (pc + 1) ls (.int (M k i.toNatClampNeg) :: rest))) : W p l e R s m args below meth c H locs cells slots Q (F0 m pc ls (.int i :: .ref (ad k) :: rest)) :=
  va_zald (D := D) (cl := vwCl) hx hb hK (nw_one hN (k := k) (i := 0) ⟨rfl, Or.inr hk⟩ ((mS_at hk).trans (by rw [hc]))) 0 1 rfl rfl hin hdg kk
theorem mg_ist (hx : p.tables.exec = Jvm.exec) (hb : c.code = cc) (hI : mI ad) (hK : mK D cI cZ s) (hN : mN D ad cI cZ M H) (hS : va_S (mA ad) H0 H locs) (k : Nat) (hk : mArr k = true) (hc : mCl cI cZ k = cI) {i x : Int32} (hin : vp_in i (mLen k)) (hdg : decode cc pc = .ok (.iastore, 1))
    (hM : M' = va_up M k (upd (M k) i.toNatClampNeg x))
    (kk : ∀ (H1 : Heap) (locs1 : List Loc), mN D ad cI cZ M' H1 → va_S (mA ad) H0 H1 locs1 → W p l e R s m args below meth c H1 locs1 cells slots Q (F0 m (pc + 1) ls rest)) : W p l e R s m args below meth c H locs cells slots Q (F0 m pc ls (.int x :: .int i :: .ref (ad k) :: rest)) := by
  subst hM
  exact nw_iast (D := D) (cl := vwCl) (ad := fun k _ => ad k) (S := mS ad cI cZ M) (S' := mS ad cI cZ (va_up M k (upd (M k) i.toNatClampNeg x))) hx hb hK hN (mI_nw hI) hS (ki := k) (ii := 0) ⟨rfl, Or.inr hk⟩ 0 ((mS_at hk).trans (by rw [hc])) rfl hin ((mS_upat hk).trans (by rw [hc])) (mS_up hk) hdg kk
theorem mg_zst (hx : p.tables.exec = Jvm.exec) (hb : c.code = cc) (hI : mI ad) (hK : mK D cI cZ s) (hN : mN D ad cI cZ M H) (hS : va_S (mA ad) H0 H locs) (k : Nat) (hk : mArr k = true) (hc : mCl cI cZ k = cZ) {i x : Int32} (hin : vp_in i (mLen k)) (hdg : decode cc pc = .ok (.bastore, 1))
    (hM : M' = va_up M k (upd (M k) i.toNatClampNeg (vp_nar .boolean x)))
    (kk : ∀ (H1 : Heap) (locs1 : List Loc), mN D ad cI cZ M' H1 → va_S (mA ad) H0 H1 locs1 → W p l e R s m args below meth c H1 locs1 cells slots Q (F0 m (pc + 1) ls rest)) : W p l e R s m args below meth c H locs cells slots Q (F0 m pc ls (.int x :: .int i :: .ref (ad k) :: rest)) := by
  subst hM
  exact nw_zast (D := D) (cl := vwCl) (ad := fun k _ => ad k) (S := mS ad cI cZ M) (S' := mS ad cI cZ (va_up M k (upd (M k) i.toNatClampNeg (vp_nar .boolean x)))) hx hb hK hN (mI_nw hI) hS (ki := k) (ii := 0) ⟨rfl, Or.inr hk⟩ 1 ((mS_at hk).trans (by rw [hc])) rfl hin ((mS_upat hk).trans (by rw [hc])) (mS_up hk) hdg kk
end MG
/-- the machine comes to its end from here, from every heap that holds M -/
def mG (p : Program) (l : Launch) (e : Env) (R : Room) (s : State) (m : MethodId) (args : Array Value) (below : List Frame) (meth : Method) (c : Code) (Q : State → Prop) (D : va_G) (ad : Nat → Nat) (cI cZ : ClassId) (nL : Nat) (M : MT) (pc : Nat) (lst : List (Nat × Value)) (st : List Value) : Prop :=
  ∀ (H : Heap) (locs : List Loc) (ls : Array Slot), mN D ad cI cZ M H → va_S (mA ad) s.heap H locs → lv_has ls nL lst → W p l e R s m args below meth c H locs 0 0 Q (F0 m pc ls st)
