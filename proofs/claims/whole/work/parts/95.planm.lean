/-! PURE PART. A pan as numbers: tones, blows, whether sunk; rows of blows. -/
abbrev PS : Type := (Nat → Int) × (Nat → Nat) × (Nat → Bool)
def pF (c : Nat) : Nat := c % 8 / 2 + 1
def pB (s : PS) (c : Nat) : Prop := s.2.1 (c / 8) ≤ 6 ∧ (c % 2 = 1 ∨ s.2.2 (c / 8) = false)
def pt (s : PS) (c : Nat) : PS := (fun g => if g = c / 8 then s.1 g + (if c % 2 = 1 then -6 * (pF c : Int) else 4 * (pF c : Int)) else if g = (c / 8 + 1) % 4 ∨ g = (c / 8 + 3) % 4 then s.1 g + (if c % 2 = 1 then (pF c : Int) else -(pF c : Int)) else s.1 g, fun g => if g = c / 8 then s.2.1 g + 1 else s.2.1 g, fun g => if g = c / 8 then s.2.2 g || decide (c % 2 = 1) else s.2.2 g)
def pTn (s : PS) (h : Int) : Prop := ∀ f, f < 4 → s.2.1 f ≤ 6 ∧ -5 ≤ s.1 f - h ∧ s.1 f - h ≤ 5
def pGood (h : Int) : List Nat → PS → Prop
  | [], s => pTn s h
  | c :: r, s => pB s c ∧ pGood h r (pt s c)
def pOk (s : PS) (h : Int) (l f : Nat) : Prop := s.2.1 f ≤ 6 ∧ -(5 + 24 * (l : Int)) ≤ s.1 f - h ∧ s.1 f - h ≤ 5 + 24 * (l : Int)
def pnd (s : PS) (h : Int) (l f : Nat) : Nat := if -(5 + 4 * (l : Int)) ≤ s.1 f - h ∧ s.1 f - h ≤ 5 + 4 * (l : Int) then 0 else 1
def pMay (s : PS) (h : Int) (l : Nat) : Prop := (∀ f, f < 4 → pOk s h l f) ∧ pnd s h l 0 + pnd s h l 1 + pnd s h l 2 + pnd s h l 3 ≤ l
theorem pF_le (c : Nat) : 1 ≤ pF c ∧ pF c ≤ 4 := by
  unfold pF
  omega
theorem pt_near (s : PS) (c g : Nat) : -24 ≤ (pt s c).1 g - s.1 g ∧ (pt s c).1 g - s.1 g ≤ 24 := by
  have hF := pF_le c
  show -24 ≤ (if g = c / 8 then s.1 g + (if c % 2 = 1 then -6 * (pF c : Int) else 4 * (pF c : Int)) else if g = (c / 8 + 1) % 4 ∨ g = (c / 8 + 3) % 4 then s.1 g + (if c % 2 = 1 then (pF c : Int) else -(pF c : Int)) else s.1 g) - s.1 g ∧ (if g = c / 8 then s.1 g + (if c % 2 = 1 then -6 * (pF c : Int) else 4 * (pF c : Int)) else if g = (c / 8 + 1) % 4 ∨ g = (c / 8 + 3) % 4 then s.1 g + (if c % 2 = 1 then (pF c : Int) else -(pF c : Int)) else s.1 g) - s.1 g ≤ 24
  split
  · split <;> omega
  · split
    · split <;> omega
    · omega
theorem pt_beside (s : PS) {c g : Nat} (hg : g ≠ c / 8) : -4 ≤ (pt s c).1 g - s.1 g ∧ (pt s c).1 g - s.1 g ≤ 4 := by
  have hF := pF_le c
  show -4 ≤ (if g = c / 8 then s.1 g + (if c % 2 = 1 then -6 * (pF c : Int) else 4 * (pF c : Int)) else if g = (c / 8 + 1) % 4 ∨ g = (c / 8 + 3) % 4 then s.1 g + (if c % 2 = 1 then (pF c : Int) else -(pF c : Int)) else s.1 g) - s.1 g ∧ (if g = c / 8 then s.1 g + (if c % 2 = 1 then -6 * (pF c : Int) else 4 * (pF c : Int)) else if g = (c / 8 + 1) % 4 ∨ g = (c / 8 + 3) % 4 then s.1 g + (if c % 2 = 1 then (pF c : Int) else -(pF c : Int)) else s.1 g) - s.1 g ≤ 4
  rw [if_neg hg]
  split
  · split <;> omega
  · omega
theorem pt_blows (s : PS) (c g : Nat) : s.2.1 g ≤ (pt s c).2.1 g := by
  show s.2.1 g ≤ if g = c / 8 then s.2.1 g + 1 else s.2.1 g
  split <;> omega
theorem pnd_le (s : PS) (h : Int) (l f : Nat) : pnd s h l f ≤ 1 := by
  unfold pnd
  split <;> omega
theorem pnd_mono (s : PS) (h : Int) (l : Nat) {c g : Nat} (hg : g ≠ c / 8) : pnd s h (l + 1) g ≤ pnd (pt s c) h l g := by
  have := pt_beside s hg
  unfold pnd
  split
  · omega
  · split
    · omega
    · omega
/-- the search may leave out what cannot be brought in tune by so many blows -/
theorem pMay_of (h : Int) : ∀ (r : List Nat) (s : PS), (∀ c ∈ r, c < 32) → pGood h r s → pMay s h r.length
  | [], s, _, hg => by
    have hg : pTn s h := hg
    refine ⟨fun f hf => ?_, ?_⟩
    · obtain ⟨g1, g2, g3⟩ := hg f hf
      exact ⟨g1, by show -(5 + 24 * ((0 : Nat) : Int)) ≤ _; omega, by show _ ≤ 5 + 24 * ((0 : Nat) : Int); omega⟩
    · have z : ∀ f, f < 4 → pnd s h 0 f = 0 := fun f hf => by
        obtain ⟨g1, g2, g3⟩ := hg f hf
        exact if_pos ⟨by omega, by omega⟩
      show pnd s h 0 0 + pnd s h 0 1 + pnd s h 0 2 + pnd s h 0 3 ≤ 0
      rw [z 0 (by omega), z 1 (by omega), z 2 (by omega), z 3 (by omega)]
      exact Nat.le_refl 0
  | c :: r, s, hc, hg => by
    obtain ⟨g1, g2⟩ := hg
    obtain ⟨m1, m2⟩ := pMay_of h r (pt s c) (fun x hx => hc x (List.mem_cons_of_mem _ hx)) g2
    have hc32 : c < 32 := hc c List.mem_cons_self
    show pMay s h (r.length + 1)
    generalize r.length = l at *
    refine ⟨fun f hf => ?_, ?_⟩
    · obtain ⟨q1, q2, q3⟩ := m1 f hf
      have n1 := pt_near s c f
      have n2 := pt_blows s c f
      exact ⟨by omega, by omega, by omega⟩
    · have f4 : c / 8 = 0 ∨ c / 8 = 1 ∨ c / 8 = 2 ∨ c / 8 = 3 := by omega
      have b0 := pnd_le s h (l + 1) (c / 8)
      rcases f4 with e | e | e | e
      · rw [e] at b0
        have k1 := pnd_mono s h l (show 1 ≠ c / 8 by omega)
        have k2 := pnd_mono s h l (show 2 ≠ c / 8 by omega)
        have k3 := pnd_mono s h l (show 3 ≠ c / 8 by omega)
        omega
      · rw [e] at b0
        have k1 := pnd_mono s h l (show 0 ≠ c / 8 by omega)
        have k2 := pnd_mono s h l (show 2 ≠ c / 8 by omega)
        have k3 := pnd_mono s h l (show 3 ≠ c / 8 by omega)
        omega
      · rw [e] at b0
        have k1 := pnd_mono s h l (show 0 ≠ c / 8 by omega)
        have k2 := pnd_mono s h l (show 1 ≠ c / 8 by omega)
        have k3 := pnd_mono s h l (show 3 ≠ c / 8 by omega)
        omega
      · rw [e] at b0
        have k1 := pnd_mono s h l (show 0 ≠ c / 8 by omega)
        have k2 := pnd_mono s h l (show 1 ≠ c / 8 by omega)
        have k3 := pnd_mono s h l (show 2 ≠ c / 8 by omega)
        omega
/-- the numbers of a row's blows -/
def dg : Nat → Nat → List Nat
  | 0, _ => []
  | l + 1, n => (n / 32 ^ l % 32) :: dg l n
theorem dg_len : ∀ l n, (dg l n).length = l
  | 0, _ => rfl
  | l + 1, n => by
    show (dg l n).length + 1 = l + 1
    rw [dg_len l n]
theorem dg_lt : ∀ l n, ∀ c ∈ dg l n, c < 32
  | 0, _, _, h => absurd h List.not_mem_nil
  | l + 1, n, c, h => by
    rcases List.mem_cons.mp h with e | e
    · omega
    · exact dg_lt l n c e
theorem dg_cons {l c m : Nat} (hl : l ≤ 2) (hc : c < 32) (hm : m < 32 ^ l) : dg (l + 1) (c * 32 ^ l + m) = c :: dg l m := by
  have : l = 0 ∨ l = 1 ∨ l = 2 := by omega
  rcases this with rfl | rfl | rfl
  · show [(c * 1 + m) / 1 % 32] = [c]
    have : m < 1 := hm
    congr 1
    omega
  · show [(c * 32 + m) / 32 % 32, (c * 32 + m) / 1 % 32] = [c, m / 1 % 32]
    have : m < 32 := hm
    congr 1
    · omega
    · congr 1
      omega
  · show [(c * 1024 + m) / 1024 % 32, (c * 1024 + m) / 32 % 32, (c * 1024 + m) / 1 % 32] = [c, m / 32 % 32, m / 1 % 32]
    have : m < 1024 := hm
    congr 1
    · omega
    · congr 1
      · omega
      · congr 1
        omega
theorem dg_split {l c n : Nat} (hl : l ≤ 2) (h : n < (c + 1) * 32 ^ l) : n < c * 32 ^ l ∨ ∃ m, m < 32 ^ l ∧ n = c * 32 ^ l + m := by
  by_cases h1 : n < c * 32 ^ l
  · exact Or.inl h1
  · refine Or.inr ⟨n - c * 32 ^ l, ?_, ?_⟩
    · rw [Nat.add_mul, Nat.one_mul] at h
      omega
    · omega
theorem dg_lt32 {l c m : Nat} (hc : c < 32) (hm : m < 32 ^ l) : c * 32 ^ l + m < 32 ^ (l + 1) := by
  have h1 : (c + 1) * 32 ^ l ≤ 32 * 32 ^ l := Nat.mul_le_mul_right _ (by omega)
  rw [Nat.add_mul, Nat.one_mul] at h1
  rw [Nat.pow_succ, Nat.mul_comm (32 ^ l) 32]
  omega
