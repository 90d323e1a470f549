/-! PURE PART. Numbers, guards, reads and writes of rows. -/
theorem tI_add {x y : Int32} (h1 : -2147483648 ≤ x.toInt + y.toInt) (h2 : x.toInt + y.toInt < 2147483648) : (x + y).toInt = x.toInt + y.toInt := by
  rw [Int32.toInt_add]; exact Int.bmod_eq_of_le (by omega) (by omega)
theorem tI_sub {x y : Int32} (h1 : -2147483648 ≤ x.toInt - y.toInt) (h2 : x.toInt - y.toInt < 2147483648) : (x - y).toInt = x.toInt - y.toInt := by
  rw [Int32.toInt_sub]; exact Int.bmod_eq_of_le (by omega) (by omega)
theorem tI_mul {x y : Int32} (h1 : -2147483648 ≤ x.toInt * y.toInt) (h2 : x.toInt * y.toInt < 2147483648) : (x * y).toInt = x.toInt * y.toInt := by
  rw [Int32.toInt_mul]; exact Int.bmod_eq_of_le (by omega) (by omega)
theorem tI_neg {x : Int32} (h1 : -2147483647 ≤ x.toInt) : (-x).toInt = -x.toInt := by
  have h2 := x.toInt_lt
  rw [Int32.toInt_neg]; exact Int.bmod_eq_of_le (by omega) (by omega)
theorem i_lt {x y : Int32} : x < y ↔ x.toInt < y.toInt := Int32.lt_iff_toInt_lt
theorem i_le {x y : Int32} : x ≤ y ↔ x.toInt ≤ y.toInt := Int32.le_iff_toInt_le
theorem i_eq {x y : Int32} : x = y ↔ x.toInt = y.toInt := Int32.toInt_inj.symm
theorem nIi {n : Nat} (h : n < 2147483648) : (nI n).toInt = (n : Int) := nI_toInt h
theorem nIc {n : Nat} (h : n < 2147483648) : (nI n).toNatClampNeg = n := nI_clamp h
theorem nIe {a b : Nat} (ha : a < 2147483648) (hb : b < 2147483648) : (nI a = nI b) = (a = b) := propext (nI_eq ha hb)
theorem nIle {a b : Nat} (ha : a < 2147483648) (hb : b < 2147483648) : (nI a ≤ nI b) = (a ≤ b) := propext (nI_leI ha hb)
theorem nIlt {a b : Nat} (ha : a < 2147483648) (hb : b < 2147483648) : (nI a < nI b) = (a < b) := propext (nI_ltI ha hb)
theorem nIm1 {n : Nat} (h : n < 2147483648) : (nI n = -1) = False := propext ⟨fun e => by
  have h2 := congrArg Int32.toInt e
  rw [nIi h, show ((-1 : Int32)).toInt = -1 from by decide] at h2
  omega, False.elim⟩
theorem nIz {n : Nat} (h : n < 2147483648) : (nI n = 0) = (n = 0) := nIe (b := 0) h (by omega)
theorem nIlz {n : Nat} (h : n < 2147483648) : (nI n < 0) = False := propext ⟨fun e => nI_pos h e, False.elim⟩
/-! a literal and a small number -/
theorem u_l4 (k : Nat) : (4 : Int32) * nI k = nI (4 * k) := pk_mul 4 k
theorem u_l6 (k : Nat) : (6 : Int32) * nI k = nI (6 * k) := pk_mul 6 k
theorem u_l8 (k : Nat) : (8 : Int32) * nI k = nI (8 * k) := pk_mul 8 k
theorem u_l24 (k : Nat) : (24 : Int32) * nI k = nI (24 * k) := pk_mul 24 k
theorem u_l5 (k : Nat) : (5 : Int32) * nI k = nI (5 * k) := pk_mul 5 k
theorem u_l7 (k : Nat) : (7 : Int32) * nI k = nI (7 * k) := pk_mul 7 k
theorem u_r4 (k : Nat) : nI k * (4 : Int32) = nI (k * 4) := pk_mul k 4
theorem u_a1 (k : Nat) : nI k + (1 : Int32) = nI (k + 1) := nI_add k 1
theorem u_a2 (k : Nat) : nI k + (2 : Int32) = nI (k + 2) := nI_add k 2
theorem u_a3 (k : Nat) : nI k + (3 : Int32) = nI (k + 3) := nI_add k 3
theorem u_a4 (k : Nat) : nI k + (4 : Int32) = nI (k + 4) := nI_add k 4
theorem u_a6 (k : Nat) : nI k + (6 : Int32) = nI (k + 6) := nI_add k 6
theorem u_a10 (k : Nat) : nI k + (10 : Int32) = nI (k + 10) := nI_add k 10
theorem u_s1 {k : Nat} (h : 1 ≤ k) : nI k - (1 : Int32) = nI (k - 1) := pk_sub (b := 1) h
theorem u_m1 {k : Nat} (h : 1 ≤ k) : nI k + (-1 : Int32) = nI (k - 1) := by
  obtain ⟨j, rfl⟩ : ∃ j, k = j + 1 := ⟨k - 1, by omega⟩
  exact pk_m1 j
theorem u_d4 {k : Nat} (h : k < 2147483648) : nI k / (4 : Int32) = nI (k / 4) := pk_div (d := 4) h (by omega) (by omega)
theorem u_d8 {k : Nat} (h : k < 2147483648) : nI k / (8 : Int32) = nI (k / 8) := pk_div (d := 8) h (by omega) (by omega)
theorem u_d2 {k : Nat} (h : k < 2147483648) : nI k / (2 : Int32) = nI (k / 2) := pk_div (d := 2) h (by omega) (by omega)
theorem u_d3 {k : Nat} (h : k < 2147483648) : nI k / (3 : Int32) = nI (k / 3) := pk_div (d := 3) h (by omega) (by omega)
theorem u_d30 {k : Nat} (h : k < 2147483648) : nI k / (30 : Int32) = nI (k / 30) := pk_div (d := 30) h (by omega) (by omega)
theorem u_e4 {k : Nat} (h : k < 2147483648) : irm (nI k) (4 : Int32) = nI (k % 4) := pk_rem (d := 4) h (by omega) (by omega)
theorem u_e2 {k : Nat} (h : k < 2147483648) : irm (nI k) (2 : Int32) = nI (k % 2) := pk_rem (d := 2) h (by omega) (by omega)
theorem u_e8 {k : Nat} (h : k < 2147483648) : irm (nI k) (8 : Int32) = nI (k % 8) := pk_rem (d := 8) h (by omega) (by omega)
theorem u_e12 {k : Nat} (h : k < 2147483648) : irm (nI k) (12 : Int32) = nI (k % 12) := pk_rem (d := 12) h (by omega) (by omega)
theorem u_e3 {k : Nat} (h : k < 2147483648) : irm (nI k) (3 : Int32) = nI (k % 3) := pk_rem (d := 3) h (by omega) (by omega)
/-! guards -/
theorem gin_t {k n : Nat} (h : k < n) (hn : n < 2147483648) : gin (nI k) n = true := decide_eq_true (nI_in h hn)
theorem gdn {α : Type} {k n : Nat} {x : Option α} (h : k < n) (hn : n < 2147483648) : gd (gin (nI k) n) x = x := gd_t (gin_t h hn)
theorem gdt {α : Type} {x : Option α} : gd true x = x := rfl
theorem gb0 {α : Type} {x : Option α} : gd (gbo 0) x = x := rfl
theorem gb1 {α : Type} {x : Option α} : gd (gbo 1) x = x := rfl
theorem gdb {α : Type} {v : Int32} {x : Option α} (h : v = 0 ∨ v = 1) : gd (gbo v) x = x := gd_t (decide_eq_true h)
theorem bnd_e {α β : Type} (a : α) (f : α → β) : bnd a f = f a := rfl
theorem cx1_l {α ρ : Type} (a : α) (g : Int32 → Option ρ) (f : α → Option ρ) : cx1 (some (.inl a)) g f = f a := rfl
theorem cx1_r {α ρ : Type} (c : Int32) (g : Int32 → Option ρ) (f : α → Option ρ) : cx1 (some (.inr c)) g f = g c := rfl
theorem cx2_l {α β ρ : Type} (a : α) (b : β) (g : Int32 → β → Option ρ) (f : α → β → Option ρ) : cx2 (some (.inl a, b)) g f = f a b := rfl
theorem cx2_r {α β ρ : Type} (c : Int32) (b : β) (g : Int32 → β → Option ρ) (f : α → β → Option ρ) : cx2 (some (.inr c, b)) g f = g c b := rfl
theorem op2_n {α ρ : Type} (a : ρ) (f : α → ρ) : op2 none a f = a := rfl
theorem op2_s {α ρ : Type} (q : α) (a : ρ) (f : α → ρ) : op2 (some q) a f = f q := rfl
/-! rows -/
theorem vu_s {α : Type} {f : Nat → α} {k : Nat} {v : α} : va_up f k v k = v := if_pos rfl
theorem vu_n {α : Type} {f : Nat → α} {k j : Nat} {v : α} (h : j ≠ k) : va_up f k v j = f j := if_neg h
theorem vb0 : vp_nar .boolean 0 = 0 := rfl
theorem vb1 : vp_nar .boolean 1 = 1 := rfl
theorem vbb {x : Int32} (h : x = 0 ∨ x = 1) : vp_nar .boolean x = x := by
  rcases h with rfl | rfl <;> rfl
/-! leaves of the model -/
/-- a is a place below n -/
def uIx (a : Int32) (n : Nat) : Prop := ∃ k, k < n ∧ a = nI k
theorem uIx_or (a : Int32) {n : Nat} (hn : n < 2147483648) : (∃ k, k < n ∧ a = nI k) ∨ a < 0 ∨ nI n ≤ a := by
  rcases pk_ix a hn with h | h | h
  · exact Or.inr (Or.inl h)
  · exact Or.inr (Or.inr h)
  · exact Or.inl h
/-! leaves of the class -/
theorem c_ri_t {k n : Nat} (h : k < n) (hn : n < 2147483648) (Z : CZ) : fX6_requireIndex (nI k) (nI n) Z = some (.inl ()) := by
  unfold fX6_requireIndex
  rw [if_neg (nI_pos (by omega)), if_pos (nI_lt h hn)]
theorem c_ri_f {a : Int32} {n : Nat} (h : a < 0 ∨ nI n ≤ a) (Z : CZ) : fX6_requireIndex a (nI n) Z = some (.inr 1) := by
  unfold fX6_requireIndex
  by_cases h0 : a < 0
  · rw [if_pos h0]
    rfl
  · rw [if_neg h0, if_neg (Int32.not_lt.mpr (h.resolve_left h0))]
    rfl
theorem c_ri_t4 {k : Nat} (h : k < 4) (Z : CZ) : fX6_requireIndex (nI k) 4 Z = some (.inl ()) := c_ri_t h (by omega) Z
theorem c_ri_f4 {a : Int32} (h : a < 0 ∨ nI 4 ≤ a) (Z : CZ) : fX6_requireIndex a 4 Z = some (.inr 1) := c_ri_f h Z
theorem c_ri_t5 {k : Nat} (h : k < 5) (Z : CZ) : fX6_requireIndex (nI k) 5 Z = some (.inl ()) := c_ri_t h (by omega) Z
theorem c_ri_f5 {a : Int32} (h : a < 0 ∨ nI 5 ≤ a) (Z : CZ) : fX6_requireIndex a 5 Z = some (.inr 1) := c_ri_f h Z
theorem c_rr_t {a b c : Int32} (h1 : ¬ a < b) (h2 : ¬ c < a) (Z : CZ) : fX6_requireRange a b c Z = some (.inl ()) := by
  unfold fX6_requireRange
  rw [if_neg h1, if_pos (Int32.not_lt.mp h2)]
theorem c_rr_f {a b c : Int32} (h : a < b ∨ c < a) (Z : CZ) : fX6_requireRange a b c Z = some (.inr 2) := by
  unfold fX6_requireRange
  by_cases h1 : a < b
  · rw [if_pos h1]
    rfl
  · rw [if_neg h1, if_neg (Int32.not_le.mpr (h.resolve_left h1))]
    rfl
theorem c_rs_1 (Z : CZ) : fX6_requireState 1 Z = some (.inl ()) := rfl
theorem c_rs_0 (Z : CZ) : fX6_requireState 0 Z = some (.inr 3) := rfl
/-- in a range or out of it -/
theorem rg_or (a b c : Int32) : (¬ a < b ∧ ¬ c < a) ∨ a < b ∨ c < a := by
  by_cases h1 : a < b
  · exact Or.inr (Or.inl h1)
  · by_cases h2 : c < a
    · exact Or.inr (Or.inr h2)
    · exact Or.inl ⟨h1, h2⟩
theorem rg_nI {a : Int32} {b c : Nat} (hc : c < 2147483648) (hb : b ≤ c) (h1 : ¬ a < nI b) (h2 : ¬ nI c < a) : ∃ k, b ≤ k ∧ k ≤ c ∧ a = nI k := by
  have h0 : ¬ a < 0 := fun h => h1 (by
    rw [i_lt, nIi (by omega)]
    rw [i_lt, show (0 : Int32).toInt = 0 from by decide] at h
    omega)
  obtain ⟨j, hj, rfl⟩ := nI_of h0
  rw [nIlt (by omega) (by omega)] at h1 h2
  exact ⟨j, by omega, by omega, rfl⟩
/-! lists: l holds k things, the j-th is e j -/
def uL (c3 : Nat → Int32) (q4 : Nat → Option Nat) (cap k : Nat) (e : Nat → Nat) : Prop := c3 2 = nI k ∧ (cap = 0 ∧ k = 0 ∨ cap = 10 ∧ k ≤ 10 ∨ cap = 15 ∧ k ≤ 15 ∨ cap = 22 ∧ k ≤ 22) ∧ (∀ j, j < k → q4 j = some (e j)) ∧ ∀ j, k ≤ j → q4 j = none
def uLs (Z : CZ) (l k : Nat) (e : Nat → Nat) : Prop := uL (Z.1 3 l) (Z.2.1 4 l) (Z.2.2 (10 + l)) k e
theorem uLs.len {Z : CZ} {l k : Nat} {e : Nat → Nat} (h : uLs Z l k e) : k ≤ 22 := by
  rcases h.2.1 with h | h | h | h <;> omega
theorem cLv3 {n : Nat → Nat} {l : Nat} (h : l < 8) : cLv n 3 l = true := decide_eq_true h
theorem uLs.size {Z : CZ} {l k : Nat} {e : Nat → Nat} (h : uLs Z l k e) (hl : l < 8) : fJx4a65c_size_8abf5 l Z = some (nI k) := by
  unfold fJx4a65c_size_8abf5
  rw [cLv3 hl, gdt, h.1]
theorem c_ci {j k : Nat} (h : j < k) (hk : k < 2147483648) (Z : CZ) : fJ15_checkIndex_7cf53 (nI j) (nI k) Z = some (nI j) := by
  unfold fJ15_checkIndex_7cf53 fJ3_checkIndex_8e157
  rw [if_neg (nI_pos (by omega)), if_pos (nI_lt h hk)]
  rfl
theorem uLs.get {Z : CZ} {l k : Nat} {e : Nat → Nat} (h : uLs Z l k e) (hl : l < 8) {j : Nat} (hj : j < k) : fJx4a65c_get_915e3 l (nI j) Z = some (e j) := by
  have hc : j < Z.2.2 (10 + l) ∧ Z.2.2 (10 + l) < 2147483648 := by
    rcases h.2.1 with h | h | h | h <;> omega
  have h4 : cLv Z.2.2 4 l = true := by
    show (decide (l < 8) && decide (0 < Z.2.2 (10 + l))) = true
    rw [decide_eq_true hl, decide_eq_true (show 0 < Z.2.2 (10 + l) by omega)]
    rfl
  unfold fJx4a65c_get_915e3 fJx4a65c_elementData_915e3
  rw [cLv3 hl, gdt, h.1, c_ci hj (by have := uLs.len h; omega) Z, cl1_s, gdt, h4, gdt, gdn hc.1 hc.2, nIc (by have := uLs.len h; omega), h.2.2.1 j hj, cl1_s, cl1_s]

