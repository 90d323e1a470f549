/-! PURE PART. change (an error spreads) and drill. -/
section URD
variable {n : Nat} {Z : CZ} {M : MT} {S C : Nat → Nat} {E P : Nat → Nat → Nat}
theorem up_eq {α : Type} {f g : Nat → α} {k : Nat} (h : ∀ j, j ≠ k → f j = g j) : f = va_up g k (f k) := funext fun j => by
  by_cases e : j = k
  · subst e
    rw [vu_s]
  · rw [vu_n e, h j e]
theorem up_eq2 {α : Type} {f g : Nat → α} {k l : Nat} (h : ∀ j, j ≠ k → j ≠ l → f j = g j) : f = va_up (va_up g k (f k)) l (f l) := funext fun j => by
  by_cases e : j = l
  · subst e
    rw [vu_s]
  · rw [vu_n e]
    by_cases e2 : j = k
    · subst e2
      rw [vu_s]
    · rw [vu_n e2, h j e2 e]
theorem zz_eq {Z Z' : CZ} {f : Nat → Nat → Nat → Int32} (h1 : Z'.1 = f) (h2 : Z'.2 = Z.2) : Z' = (f, Z.2) := by
  rw [← h1, ← h2]
theorem uLs.of {Z Z' : CZ} {l k : Nat} {e : Nat → Nat} (h : uLs Z l k e) (h3 : Z'.1 3 = Z.1 3) (h2 : Z'.2 = Z.2) : uLs Z' l k e := by
  unfold uLs
  rw [h3, h2]
  exact h
/-! the error that spreads: the class's loop and the model's side by side -/
theorem c_spoil (h : uRR n Z M S C E P) {b j : Nat} (hb : b < 4) (hj : j < 6) : ∀ (d x fuel : Nat) (Z' : CZ), x + d = S b → d < fuel → Z'.2 = Z.2 → (∀ k, k ≠ 14 → k ≠ 11 → Z'.1 k = Z.1 k) → ∃ Z'' : CZ, lf4 fX0_spoilPhrase_2 fuel b (nI j) (nI x) Z' = some Z'' ∧ Z''.2 = Z.2 ∧ (∀ k, k ≠ 14 → Z''.1 k = Z'.1 k) ∧ (∀ k, x ≤ k → k < S b → Z''.1 14 (E b k) j = if Z'.1 14 (E b k) j = 1 then 2 else Z'.1 14 (E b k) j) ∧ ∀ e f, ¬ (f = j ∧ ∃ k, x ≤ k ∧ k < S b ∧ e = E b k) → Z''.1 14 e f = Z'.1 14 e f
  | _, _, 0, _, _, hf, _, _ => absurd hf (by omega)
  | 0, x, fuel + 1, Z', hx, _, h2, h1 => by
    have hS := h.nS hb
    refine ⟨Z', ?_, h2, fun _ _ => rfl, fun k q1 q2 => by omega, fun _ _ _ => rfl⟩
    rw [lf4_s]
    unfold fX0_spoilPhrase_2
    rw [cLv10 hb, gdt, cLv3 (by omega), gdt, ((h.ls4 hb).of (h1 3 (by omega) (by omega)) h2).size (by omega), cl1_s, if_pos (nI_le (by omega) (by omega))]
    rfl
  | d + 1, x, fuel + 1, Z', hx, hf, h2, h1 => by
    have hS := h.nS hb
    have hls := (h.ls4 hb).of (h1 3 (by omega) (by omega)) h2
    obtain ⟨p1, p2, p3, p4⟩ := h.2.2.2.2.2.2.1.2.1 b x hb (by omega)
    have p1' : cLv Z'.2.2 13 (E b x) = true := by
      rw [h2]
      exact cLv13 p1
    have inj : ∀ k, x + 1 ≤ k → k < S b → E b k ≠ E b x := fun k q1 q2 e => by
      have := (h.inj b k b x hb q2 hb (by omega) e).2
      omega
    have step : lf4 fX0_spoilPhrase_2 (fuel + 1) b (nI j) (nI x) Z' = if Z'.1 14 (E b x) j = 1 then lf4 fX0_spoilPhrase_2 fuel b (nI j) (nI (x + 1)) (cuI Z' 14 (E b x) (upd (Z'.1 14 (E b x)) j 2)) else lf4 fX0_spoilPhrase_2 fuel b (nI j) (nI (x + 1)) Z' := by
      rw [lf4_s]
      unfold fX0_spoilPhrase_2
      rw [cLv10 hb, gdt, cLv3 (by omega), gdt, hls.size (by omega), cl1_s, if_neg (nI_ge (by omega) (by omega)), hls.get (by omega) (show x < S b by omega), cl1_s, p1', gdt, gdn hj (by omega), gdn hj (by omega), nIc (by omega), bnd_e]
      unfold fX0_spoilPhrase_42
      rw [bnd_e, bnd_e, u_a1]
    by_cases hv : Z'.1 14 (E b x) j = 1
    · have w0 : (cuI Z' 14 (E b x) (upd (Z'.1 14 (E b x)) j 2)).1 14 (E b x) j = 2 := by rw [cuI_s, pk_us]
      have w1 : ∀ e f, ¬ (e = E b x ∧ f = j) → (cuI Z' 14 (E b x) (upd (Z'.1 14 (E b x)) j 2)).1 14 e f = Z'.1 14 e f := fun e f q => by
        by_cases he : e = E b x
        · subst he
          rw [cuI_s]
          exact pk_un (fun q2 => q ⟨rfl, q2⟩)
        · rw [cuI_n (fun q2 => he q2.2)]
      have w2 : ∀ k, k ≠ 14 → (cuI Z' 14 (E b x) (upd (Z'.1 14 (E b x)) j 2)).1 k = Z'.1 k := fun k hk => funext fun i => by rw [cuI_n (fun q => hk q.1)]
      obtain ⟨Z'', z1, z2, z3, z4, z5⟩ := c_spoil h hb hj d (x + 1) fuel (cuI Z' 14 (E b x) (upd (Z'.1 14 (E b x)) j 2)) (by omega) (by omega) h2 (fun k hk hk2 => by rw [w2 k hk, h1 k hk hk2])
      refine ⟨Z'', by rw [step, if_pos hv]; exact z1, z2, fun k hk => by rw [z3 k hk, w2 k hk], fun k q1 q2 => ?_, fun e f q => ?_⟩
      · by_cases hk : k = x
        · subst hk
          rw [if_pos hv, z5 _ _ (fun q => by
            obtain ⟨_, k', q3, q4, q5⟩ := q
            exact inj k' q3 q4 q5.symm), w0]
        · rw [z4 k (by omega) q2, w1 _ _ (fun q => inj k (by omega) q2 q.1)]
      · rw [z5 e f (fun q6 => q ⟨q6.1, by
          obtain ⟨_, k', q3, q4, q5⟩ := q6
          exact ⟨k', by omega, q4, q5⟩⟩), w1 e f (fun q6 => q ⟨q6.2, x, by omega, by omega, q6.1⟩)]
    · obtain ⟨Z'', z1, z2, z3, z4, z5⟩ := c_spoil h hb hj d (x + 1) fuel Z' (by omega) (by omega) h2 h1
      refine ⟨Z'', by rw [step, if_neg hv]; exact z1, z2, z3, fun k q1 q2 => ?_, fun e f q => ?_⟩
      · by_cases hk : k = x
        · subst hk
          rw [if_neg hv, z5 _ _ (fun q => by
            obtain ⟨_, k', q3, q4, q5⟩ := q
            exact inj k' q3 q4 q5.symm)]
        · exact z4 k (by omega) q2
      · exact z5 e f (fun q6 => q ⟨q6.1, by
          obtain ⟨_, k', q3, q4, q5⟩ := q6
          exact ⟨k', by omega, q4, q5⟩⟩)
end URD

/-! PURE PART. A pan as numbers: tones, blows, whether sunk; rows of blows. -/
abbrev PS : Type := (Nat → Int) × (Nat → Nat) × (Nat → Bool)
def pF (c : Nat) : Nat := c % 8 / 2 + 1
def pB (s : PS) (c : Nat) : Prop := s.2.1 (c / 8) ≤ 6 ∧ (c % 2 = 1 ∨ s.2.2 (c / 8) = false)
def pt (s : PS) (c : Nat) : PS := (fun g => if g = c / 8 then s.1 g + (if c % 2 = 1 then -6 * (pF c : Int) else 4 * (pF c : Int)) else if g = (c / 8 + 1) % 4 ∨ g = (c / 8 + 3) % 4 then s.1 g + (if c % 2 = 1 then (pF c : Int) else -(pF c : Int)) else s.1 g, fun g => if g = c / 8 then s.2.1 g + 1 else s.2.1 g, fun g => if g = c / 8 then s.2.2 g || decide (c % 2 = 1) else s.2.2 g)
def pTn (s : PS) (h : Int) : Prop := ∀ f, f < 4 → s.2.1 f ≤ 6 ∧ -5 ≤ s.1 f - h ∧ s.1 f - h ≤ 5
def pGood (h : Int) : List Nat → PS → Prop
  | [], s => pTn s h
  | c :: r, s => pB s c ∧ pGood h r (pt s c)
def pOk (s : PS) (h : Int) (l f : Nat) : Prop := s.2.1 f ≤ 6 ∧ -(5 + 24 * (l : Int)) ≤ s.1 f - h ∧ s.1 f - h ≤ 5 + 24 * (l : Int)
def pnd (s : PS) (h : Int) (l f : Nat) : Nat := if -(5 + 4 * (l : Int)) ≤ s.1 f - h ∧ s.1 f - h ≤ 5 + 4 * (l : Int) then 0 else 1
def pMay (s : PS) (h : Int) (l : Nat) : Prop := (∀ f, f < 4 → pOk s h l f) ∧ pnd s h l 0 + pnd s h l 1 + pnd s h l 2 + pnd s h l 3 ≤ l
theorem pF_le (c : Nat) : 1 ≤ pF c ∧ pF c ≤ 4 := by
  unfold pF
  omega
theorem pt_near (s : PS) (c g : Nat) : -24 ≤ (pt s c).1 g - s.1 g ∧ (pt s c).1 g - s.1 g ≤ 24 := by
  have hF := pF_le c
  show -24 ≤ (if g = c / 8 then s.1 g + (if c % 2 = 1 then -6 * (pF c : Int) else 4 * (pF c : Int)) else if g = (c / 8 + 1) % 4 ∨ g = (c / 8 + 3) % 4 then s.1 g + (if c % 2 = 1 then (pF c : Int) else -(pF c : Int)) else s.1 g) - s.1 g ∧ (if g = c / 8 then s.1 g + (if c % 2 = 1 then -6 * (pF c : Int) else 4 * (pF c : Int)) else if g = (c / 8 + 1) % 4 ∨ g = (c / 8 + 3) % 4 then s.1 g + (if c % 2 = 1 then (pF c : Int) else -(pF c : Int)) else s.1 g) - s.1 g ≤ 24
  split
  · split <;> omega
  · split
    · split <;> omega
    · omega
theorem pt_beside (s : PS) {c g : Nat} (hg : g ≠ c / 8) : -4 ≤ (pt s c).1 g - s.1 g ∧ (pt s c).1 g - s.1 g ≤ 4 := by
  have hF := pF_le c
  show -4 ≤ (if g = c / 8 then s.1 g + (if c % 2 = 1 then -6 * (pF c : Int) else 4 * (pF c : Int)) else if g = (c / 8 + 1) % 4 ∨ g = (c / 8 + 3) % 4 then s.1 g + (if c % 2 = 1 then (pF c : Int) else -(pF c : Int)) else s.1 g) - s.1 g ∧ (if g = c / 8 then s.1 g + (if c % 2 = 1 then -6 * (pF c : Int) else 4 * (pF c : Int)) else if g = (c / 8 + 1) % 4 ∨ g = (c / 8 + 3) % 4 then s.1 g + (if c % 2 = 1 then (pF c : Int) else -(pF c : Int)) else s.1 g) - s.1 g ≤ 4
  rw [if_neg hg]
  split
  · split <;> omega
  · omega
theorem pt_blows (s : PS) (c g : Nat) : s.2.1 g ≤ (pt s c).2.1 g := by
  show s.2.1 g ≤ if g = c / 8 then s.2.1 g + 1 else s.2.1 g
  split <;> omega
theorem pnd_le (s : PS) (h : Int) (l f : Nat) : pnd s h l f ≤ 1 := by
  unfold pnd
  split <;> omega
theorem pnd_mono (s : PS) (h : Int) (l : Nat) {c g : Nat} (hg : g ≠ c / 8) : pnd s h (l + 1) g ≤ pnd (pt s c) h l g := by
  have := pt_beside s hg
  unfold pnd
  split
  · omega
  · split
    · omega
    · omega
/-- the search may leave out what cannot be brought in tune by so many blows -/
theorem pMay_of (h : Int) : ∀ (r : List Nat) (s : PS), (∀ c ∈ r, c < 32) → pGood h r s → pMay s h r.length
  | [], s, _, hg => by
    have hg : pTn s h := hg
    refine ⟨fun f hf => ?_, ?_⟩
    · obtain ⟨g1, g2, g3⟩ := hg f hf
      exact ⟨g1, by show -(5 + 24 * ((0 : Nat) : Int)) ≤ _; omega, by show _ ≤ 5 + 24 * ((0 : Nat) : Int); omega⟩
    · have z : ∀ f, f < 4 → pnd s h 0 f = 0 := fun f hf => by
        obtain ⟨g1, g2, g3⟩ := hg f hf
        exact if_pos ⟨by omega, by omega⟩
      show pnd s h 0 0 + pnd s h 0 1 + pnd s h 0 2 + pnd s h 0 3 ≤ 0
      rw [z 0 (by omega), z 1 (by omega), z 2 (by omega), z 3 (by omega)]
      exact Nat.le_refl 0
  | c :: r, s, hc, hg => by
    obtain ⟨g1, g2⟩ := hg
    obtain ⟨m1, m2⟩ := pMay_of h r (pt s c) (fun x hx => hc x (List.mem_cons_of_mem _ hx)) g2
    have hc32 : c < 32 := hc c List.mem_cons_self
    show pMay s h (r.length + 1)
    generalize r.length = l at *
    refine ⟨fun f hf => ?_, ?_⟩
    · obtain ⟨q1, q2, q3⟩ := m1 f hf
      have n1 := pt_near s c f
      have n2 := pt_blows s c f
      exact ⟨by omega, by omega, by omega⟩
    · have f4 : c / 8 = 0 ∨ c / 8 = 1 ∨ c / 8 = 2 ∨ c / 8 = 3 := by omega
      have b0 := pnd_le s h (l + 1) (c / 8)
      rcases f4 with e | e | e | e
      · rw [e] at b0
        have k1 := pnd_mono s h l (show 1 ≠ c / 8 by omega)
        have k2 := pnd_mono s h l (show 2 ≠ c / 8 by omega)
        have k3 := pnd_mono s h l (show 3 ≠ c / 8 by omega)
        omega
      · rw [e] at b0
        have k1 := pnd_mono s h l (show 0 ≠ c / 8 by omega)
        have k2 := pnd_mono s h l (show 2 ≠ c / 8 by omega)
        have k3 := pnd_mono s h l (show 3 ≠ c / 8 by omega)
        omega
      · rw [e] at b0
        have k1 := pnd_mono s h l (show 0 ≠ c / 8 by omega)
        have k2 := pnd_mono s h l (show 1 ≠ c / 8 by omega)
        have k3 := pnd_mono s h l (show 3 ≠ c / 8 by omega)
        omega
      · rw [e] at b0
        have k1 := pnd_mono s h l (show 0 ≠ c / 8 by omega)
        have k2 := pnd_mono s h l (show 1 ≠ c / 8 by omega)
        have k3 := pnd_mono s h l (show 2 ≠ c / 8 by omega)
        omega
/-- the numbers of a row's blows -/
def dg : Nat → Nat → List Nat
  | 0, _ => []
  | l + 1, n => (n / 32 ^ l % 32) :: dg l n
theorem dg_len : ∀ l n, (dg l n).length = l
  | 0, _ => rfl
  | l + 1, n => by
    show (dg l n).length + 1 = l + 1
    rw [dg_len l n]
theorem dg_lt : ∀ l n, ∀ c ∈ dg l n, c < 32
  | 0, _, _, h => absurd h List.not_mem_nil
  | l + 1, n, c, h => by
    rcases List.mem_cons.mp h with e | e
    · omega
    · exact dg_lt l n c e
theorem dg_cons {l c m : Nat} (hl : l ≤ 2) (hc : c < 32) (hm : m < 32 ^ l) : dg (l + 1) (c * 32 ^ l + m) = c :: dg l m := by
  have : l = 0 ∨ l = 1 ∨ l = 2 := by omega
  rcases this with rfl | rfl | rfl
  · show [(c * 1 + m) / 1 % 32] = [c]
    have : m < 1 := hm
    congr 1
    omega
  · show [(c * 32 + m) / 32 % 32, (c * 32 + m) / 1 % 32] = [c, m / 1 % 32]
    have : m < 32 := hm
    congr 1
    · omega
    · congr 1
      omega
  · show [(c * 1024 + m) / 1024 % 32, (c * 1024 + m) / 32 % 32, (c * 1024 + m) / 1 % 32] = [c, m / 32 % 32, m / 1 % 32]
    have : m < 1024 := hm
    congr 1
    · omega
    · congr 1
      · omega
      · congr 1
        omega
theorem dg_split {l c n : Nat} (hl : l ≤ 2) (h : n < (c + 1) * 32 ^ l) : n < c * 32 ^ l ∨ ∃ m, m < 32 ^ l ∧ n = c * 32 ^ l + m := by
  by_cases h1 : n < c * 32 ^ l
  · exact Or.inl h1
  · refine Or.inr ⟨n - c * 32 ^ l, ?_, ?_⟩
    · rw [Nat.add_mul, Nat.one_mul] at h
      omega
    · omega
theorem dg_lt32 {l c m : Nat} (hc : c < 32) (hm : m < 32 ^ l) : c * 32 ^ l + m < 32 ^ (l + 1) := by
  have h1 : (c + 1) * 32 ^ l ≤ 32 * 32 ^ l := Nat.mul_le_mul_right _ (by omega)
  rw [Nat.add_mul, Nat.one_mul] at h1
  rw [Nat.pow_succ, Nat.mul_comm (32 ^ l) 32]
  omega

/-! PURE PART. A pan of the class, and the model's scratch, as numbers. -/
def prep (t m u : Nat → Int32) (s : PS) : Prop := ∀ f, f < 4 → (t f).toInt = s.1 f ∧ m f = nI (s.2.1 f) ∧ u f = (if s.2.2 f = true then 1 else 0)
def pbd (s : PS) (B K : Nat) : Prop := ∀ f, f < 4 → (-(B : Int) ≤ s.1 f ∧ s.1 f ≤ B) ∧ s.2.1 f ≤ K
theorem pbd.pt {s : PS} {B K : Nat} (h : pbd s B K) (c : Nat) : pbd (pt s c) (B + 24) (K + 1) := fun f hf => by
  obtain ⟨⟨h1, h2⟩, h3⟩ := h f hf
  have n1 := pt_near s c f
  refine ⟨⟨by omega, by omega⟩, ?_⟩
  show (if f = c / 8 then s.2.1 f + 1 else s.2.1 f) ≤ K + 1
  split <;> omega
/-- the tones after a blow: rows alike in the class and in the model -/
def brow (t : Nat → Int32) (f : Nat) (d0 d1 : Int32) : Nat → Int32 := upd (upd (upd t f (t f + d0)) ((f + 1) % 4) (upd t f (t f + d0) ((f + 1) % 4) + d1)) ((f + 3) % 4) (upd (upd t f (t f + d0)) ((f + 1) % 4) (upd t f (t f + d0) ((f + 1) % 4) + d1) ((f + 3) % 4) + d1)
theorem prow {t : Nat → Int32} {s : PS} {c : Nat} {B : Nat} (hB : B ≤ 1000000) (hc : c < 32) (ht : ∀ f, f < 4 → (t f).toInt = s.1 f ∧ -(B : Int) ≤ s.1 f ∧ s.1 f ≤ B) {d0 d1 : Int32} (h0 : d0.toInt = if c % 2 = 1 then -6 * (pF c : Int) else 4 * (pF c : Int)) (h1 : d1.toInt = if c % 2 = 1 then (pF c : Int) else -(pF c : Int)) : ∀ g, g < 4 → (brow t (c / 8) d0 d1 g).toInt = (pt s c).1 g := by
  have hF := pF_le c
  have b0 : -24 ≤ d0.toInt ∧ d0.toInt ≤ 24 := by
    rw [h0]
    split <;> omega
  have b1 : -4 ≤ d1.toInt ∧ d1.toInt ≤ 4 := by
    rw [h1]
    split <;> omega
  intro g hg
  obtain ⟨g1, g2, g3⟩ := ht g hg
  show (brow t (c / 8) d0 d1 g).toInt = if g = c / 8 then s.1 g + (if c % 2 = 1 then -6 * (pF c : Int) else 4 * (pF c : Int)) else if g = (c / 8 + 1) % 4 ∨ g = (c / 8 + 3) % 4 then s.1 g + (if c % 2 = 1 then (pF c : Int) else -(pF c : Int)) else s.1 g
  rw [← h0, ← h1, ← g1]
  unfold brow
  by_cases k0 : g = c / 8
  · rw [if_pos k0, pk_un (by omega), pk_un (by omega), ← k0, pk_us]
    exact tI_add (by omega) (by omega)
  · rw [if_neg k0]
    by_cases k1 : g = (c / 8 + 1) % 4
    · rw [if_pos (Or.inl k1), pk_un (by omega), ← k1, pk_us, pk_un k0]
      exact tI_add (by omega) (by omega)
    · by_cases k3 : g = (c / 8 + 3) % 4
      · rw [if_pos (Or.inr k3), ← k3, pk_us, pk_un k1, pk_un k0]
        exact tI_add (by omega) (by omega)
      · rw [if_neg (fun q => q.elim k1 k3), pk_un k3, pk_un k1, pk_un k0]
/-- the numbers that a blow adds -/
theorem pd_raise {F : Nat} (hF : F ≤ 4) : ((4 : Int32) * nI F).toInt = 4 * (F : Int) ∧ (-(nI F)).toInt = -(F : Int) := by
  rw [u_l4, nIi (by omega), tI_neg (by rw [nIi (by omega)]; omega), nIi (by omega)]
  exact ⟨by omega, rfl⟩
theorem pd_sink {F : Nat} (hF : F ≤ 4) : ((-6 : Int32) * nI F).toInt = -6 * (F : Int) ∧ (nI F).toInt = (F : Int) := by
  have e6 : ((-6 : Int32)).toInt = -6 := by decide
  refine ⟨?_, nIi (by omega)⟩
  rw [tI_mul (by rw [e6, nIi (by omega)]; omega) (by rw [e6, nIi (by omega)]; omega), e6, nIi (by omega)]
theorem prow_m {m : Nat → Int32} {s : PS} {c : Nat} (hm : ∀ f, f < 4 → m f = nI (s.2.1 f)) : ∀ g, g < 4 → upd m (c / 8) (m (c / 8) + 1) g = nI ((pt s c).2.1 g) := fun g hg => by
  show _ = nI (if g = c / 8 then s.2.1 g + 1 else s.2.1 g)
  by_cases k0 : g = c / 8
  · rw [if_pos k0, ← k0, pk_us, hm g hg, u_a1]
  · rw [if_neg k0, pk_un k0, hm g hg]
theorem prow_u {u : Nat → Int32} {s : PS} {c : Nat} {v : Int32} (hu : ∀ f, f < 4 → u f = (if s.2.2 f = true then 1 else 0)) (hc : c < 32) (hv : v = (if s.2.2 (c / 8) = true ∨ c % 2 = 1 then 1 else 0)) : ∀ g, g < 4 → upd u (c / 8) v g = (if (pt s c).2.2 g = true then 1 else 0) := fun g hg => by
  show _ = (if (if g = c / 8 then s.2.2 g || decide (c % 2 = 1) else s.2.2 g) = true then (1 : Int32) else 0)
  by_cases k0 : g = c / 8
  · rw [if_pos k0, k0, pk_us, hv]
    by_cases h1 : s.2.2 (c / 8) = true
    · rw [if_pos (Or.inl h1), h1]
      rfl
    · have h1' : s.2.2 (c / 8) = false := by simpa using h1
      rw [h1']
      by_cases h2 : c % 2 = 1
      · rw [if_pos (Or.inr h2), decide_eq_true h2]
        rfl
      · rw [if_neg (fun q => q.elim (fun z => by cases z) h2), decide_eq_false h2]
        rfl
  · rw [if_neg k0, pk_un k0, hu g hg]
theorem u_f3 (k : Nat) : (nI k + 4) - 1 = nI (k + 3) := by
  rw [u_a4, u_s1 (by omega)]
  rfl
section URP
variable {Z : CZ} {a : Nat} {s : PS} {B K : Nat}
def zrep (Z : CZ) (a : Nat) (s : PS) : Prop := prep (Z.1 6 a) (Z.1 7 a) (Z.1 8 a) s
/-- what a search may write: pans from a on that are trials, the row from place p on -/
def zfr (a p : Nat) (Z Z' : CZ) : Prop := Z'.2 = Z.2 ∧ (∀ k i, ¬ ((k = 6 ∨ k = 7 ∨ k = 8) ∧ a ≤ i ∧ i < 9) → k ≠ 15 → Z'.1 k i = Z.1 k i) ∧ ∀ i j, j < p → Z'.1 15 i j = Z.1 15 i j
theorem zfr.rf {a p : Nat} : zfr a p Z Z := ⟨rfl, fun _ _ _ _ => rfl, fun _ _ _ => rfl⟩
theorem zfr.tr {a p : Nat} {Z1 Z2 Z3 : CZ} (h1 : zfr a p Z1 Z2) (h2 : zfr a p Z2 Z3) : zfr a p Z1 Z3 := ⟨h2.1.trans h1.1, fun k i q q2 => (h2.2.1 k i q q2).trans (h1.2.1 k i q q2), fun i j q => (h2.2.2 i j q).trans (h1.2.2 i j q)⟩
theorem zfr.weak {a p a' p' : Nat} {Z1 Z2 : CZ} (h : zfr a p Z1 Z2) (ha : a' ≤ a) (hp : p' ≤ p) : zfr a' p' Z1 Z2 := ⟨h.1, fun k i q q2 => h.2.1 k i (fun z => q ⟨z.1, by omega, z.2.2⟩) q2, fun i j q => h.2.2 i j (by omega)⟩
theorem zfr.rep {a p : Nat} {Z1 Z2 : CZ} (h : zfr a p Z1 Z2) {i : Nat} (hi : i < a) {s : PS} (hr : zrep Z1 i s) : zrep Z2 i s := by
  have e : ∀ k, k ≠ 15 → Z2.1 k i = Z1.1 k i := fun k hk => h.2.1 k i (fun z => by omega) hk
  unfold zrep
  rw [e 6 (by omega), e 7 (by omega), e 8 (by omega)]
  exact hr
theorem c_cracked (ha : cLv Z.2.2 5 a = true) (hr : zrep Z a s) (hb : pbd s B K) (hK : K ≤ 1000) {f : Nat} (hf : f < 4) : fX1_isCracked a (nI f) Z = some (if s.2.1 f ≤ 6 then 0 else 1) := by
  have hb := (hb f hf).2
  unfold fX1_isCracked
  rw [ha, gdt, gdn hf (by omega), nIc (by omega), (hr f hf).2.1]
  by_cases h : s.2.1 f ≤ 6
  · rw [if_pos (show nI (s.2.1 f) ≤ (6 : Int32) from nI_le (b := 6) h (by omega)), if_pos h]
    rfl
  · rw [if_neg (show ¬ (nI (s.2.1 f) ≤ (6 : Int32)) from nI_ge (a := 6) (by omega) (by omega)), if_neg h]
    rfl
theorem c_bears (ha : cLv Z.2.2 5 a = true) (hr : zrep Z a s) (hb : pbd s B K) (hK : K ≤ 1000) {c : Nat} (hc : c < 32) : (pB s c ∧ fX1_bears a (nI (c / 8)) (nI (c % 2)) Z = some 1) ∨ (¬ pB s c ∧ fX1_bears a (nI (c / 8)) (nI (c % 2)) Z = some 0) := by
  have hu := (hr (c / 8) (by omega)).2.2
  unfold fX1_bears
  rw [ha, gdt, c_cracked ha hr hb hK (show c / 8 < 4 by omega), cl1_s]
  by_cases h : s.2.1 (c / 8) ≤ 6
  · rw [if_pos h, if_pos (by decide)]
    have : c % 2 = 0 ∨ c % 2 = 1 := by omega
    rcases this with e | e
    · rw [e, if_pos (show nI 0 = 0 from rfl), gdn (show c / 8 < 4 by omega) (by omega), nIc (by omega), hu]
      by_cases h2 : s.2.2 (c / 8) = true
      · rw [if_pos h2, if_neg (by decide)]
        refine Or.inr ⟨fun q => ?_, rfl⟩
        rcases q.2 with q2 | q2
        · omega
        · rw [h2] at q2
          cases q2
      · rw [if_neg h2, if_pos (by decide)]
        exact Or.inl ⟨⟨h, Or.inr (by simpa using h2)⟩, rfl⟩
    · rw [e, if_neg (show ¬ (nI 1 = 0) by decide)]
      exact Or.inl ⟨⟨h, Or.inl e⟩, rfl⟩
  · rw [if_neg h, if_neg (by decide)]
    exact Or.inr ⟨fun q => h q.1, rfl⟩
/-- the class's state after a blow -/
def zbt (Z : CZ) (a f : Nat) (d0 d1 v : Int32) : CZ := (fun k i => if i = a then (if k = 6 then brow (Z.1 6 a) f d0 d1 else if k = 7 then upd (Z.1 7 a) f (Z.1 7 a f + 1) else if k = 8 then upd (Z.1 8 a) f v else Z.1 k i) else Z.1 k i, Z.2)
theorem c_beat33 (h5 : ∀ Z' : CZ, Z'.2 = Z.2 → cLv Z'.2.2 5 a = true) (h6 : cLv Z.2.2 6 a = true) {f : Nat} (hf : f < 4) {x d0 d1 : Int32} : fX1_beat_33 a (nI f) x d1 d0 (Z.1 6 a f) (nI f) a Z = some (zbt Z a f d0 d1 (vp_nar .boolean (Z.1 8 a f ||| x))) := by
  unfold fX1_beat_33
  rw [h6, gdt, gdn hf (by omega), bnd_e, h5 (cuI Z 6 a (upd (Z.1 6 a) (nI f).toNatClampNeg (Z.1 6 a f + d0))) rfl, gdt, u_a1, u_e4 (by omega), gdn (by omega) (by omega), gdn (by omega) (by omega), bnd_e, u_f3, u_e4 (by omega), gdn (by omega) (by omega), gdn (by omega) (by omega), bnd_e, gdn hf (by omega), gdn hf (by omega), bnd_e, gdn hf (by omega), gdn hf (by omega), bnd_e, nIc (by omega), nIc (by omega), nIc (by omega)]
  congr 1
  refine Prod.ext ?_ rfl
  funext k i
  by_cases hi : i = a
  · subst hi
    show _ = (if i = i then (if k = 6 then brow (Z.1 6 i) f d0 d1 else if k = 7 then upd (Z.1 7 i) f (Z.1 7 i f + 1) else if k = 8 then upd (Z.1 8 i) f (vp_nar .boolean (Z.1 8 i f ||| x)) else Z.1 k i) else Z.1 k i)
    rw [if_pos rfl]
    by_cases k6 : k = 6
    · subst k6
      rw [if_pos rfl, cuI_n (fun q => by omega), cuI_n (fun q => by omega), cuI_s, cuI_s, cuI_s]
      rfl
    · by_cases k7 : k = 7
      · subst k7
        rw [if_neg (by omega), if_pos rfl, cuI_n (fun q => by omega), cuI_s, cuI_n (fun q => by omega), cuI_n (fun q => by omega), cuI_n (fun q => by omega)]
      · by_cases k8 : k = 8
        · subst k8
          rw [if_neg (by omega), if_neg (by omega), if_pos rfl, cuI_s, cuI_n (fun q => by omega), cuI_n (fun q => by omega), cuI_n (fun q => by omega), cuI_n (fun q => by omega)]
        · rw [if_neg k6, if_neg k7, if_neg k8, cuI_n (fun q => k8 q.1), cuI_n (fun q => k7 q.1), cuI_n (fun q => k6 q.1), cuI_n (fun q => k6 q.1), cuI_n (fun q => k6 q.1)]
  · show _ = (if i = a then _ else Z.1 k i)
    rw [if_neg hi, cuI_n (fun q => hi q.2), cuI_n (fun q => hi q.2), cuI_n (fun q => hi q.2), cuI_n (fun q => hi q.2), cuI_n (fun q => hi q.2)]
theorem c_beat (h5 : ∀ Z' : CZ, Z'.2 = Z.2 → cLv Z'.2.2 5 a = true) (h6 : cLv Z.2.2 6 a = true) (hr : zrep Z a s) (hb : pbd s B K) (hB : B ≤ 1000000) {c : Nat} (hc : c < 32) : ∃ Z' : CZ, fX1_beat a (nI (c / 8)) (nI (pF c)) (nI (c % 2)) Z = some Z' ∧ Z'.2 = Z.2 ∧ (∀ k i, ¬ ((k = 6 ∨ k = 7 ∨ k = 8) ∧ i = a) → Z'.1 k i = Z.1 k i) ∧ zrep Z' a (pt s c) := by
  have hF := pF_le c
  have hf : c / 8 < 4 := by omega
  have ht : ∀ f, f < 4 → (Z.1 6 a f).toInt = s.1 f ∧ -(B : Int) ≤ s.1 f ∧ s.1 f ≤ B := fun f hf => ⟨(hr f hf).1, (hb f hf).1⟩
  have hu : ∀ f, f < 4 → Z.1 8 a f = (if s.2.2 f = true then 1 else 0) := fun f hf => (hr f hf).2.2
  have done : ∀ (d0 d1 v : Int32), (d0.toInt = if c % 2 = 1 then -6 * (pF c : Int) else 4 * (pF c : Int)) → (d1.toInt = if c % 2 = 1 then (pF c : Int) else -(pF c : Int)) → (v = (if s.2.2 (c / 8) = true ∨ c % 2 = 1 then 1 else 0)) → (∀ k i, ¬ ((k = 6 ∨ k = 7 ∨ k = 8) ∧ i = a) → (zbt Z a (c / 8) d0 d1 v).1 k i = Z.1 k i) ∧ zrep (zbt Z a (c / 8) d0 d1 v) a (pt s c) := fun d0 d1 v e0 e1 ev => by
    refine ⟨fun k i q => ?_, fun g hg => ⟨?_, ?_, ?_⟩⟩
    · show (if i = a then (if k = 6 then _ else if k = 7 then _ else if k = 8 then _ else Z.1 k i) else Z.1 k i) = _
      by_cases hi : i = a
      · rw [if_pos hi, if_neg (fun z => q ⟨Or.inl z, hi⟩), if_neg (fun z => q ⟨Or.inr (Or.inl z), hi⟩), if_neg (fun z => q ⟨Or.inr (Or.inr z), hi⟩)]
      · rw [if_neg hi]
    · show ((if a = a then brow (Z.1 6 a) (c / 8) d0 d1 else _) g).toInt = _
      rw [if_pos rfl]
      exact prow hB hc ht e0 e1 g hg
    · show (if a = a then upd (Z.1 7 a) (c / 8) (Z.1 7 a (c / 8) + 1) else _) g = _
      rw [if_pos rfl]
      exact prow_m (fun f hf => (hr f hf).2.1) g hg
    · show (if a = a then upd (Z.1 8 a) (c / 8) v else _) g = _
      rw [if_pos rfl]
      exact prow_u hu hc ev g hg
  have : c % 2 = 0 ∨ c % 2 = 1 := by omega
  rcases this with e | e
  · obtain ⟨d1, d2⟩ := done (4 * nI (pF c)) (-(nI (pF c))) (vp_nar .boolean (Z.1 8 a (c / 8) ||| 0)) (by rw [(pd_raise hF.2).1, if_neg (by omega)]) (by rw [(pd_raise hF.2).2, if_neg (by omega)]) (by
      rw [hu _ hf]
      by_cases h1 : s.2.2 (c / 8) = true
      · rw [if_pos h1, if_pos (Or.inl h1)]
        rfl
      · rw [if_neg h1, if_neg (fun q => q.elim h1 (by omega))]
        rfl)
    refine ⟨zbt Z a (c / 8) (4 * nI (pF c)) (-(nI (pF c))) (vp_nar .boolean (Z.1 8 a (c / 8) ||| 0)), ?_, rfl, d1, d2⟩
    unfold fX1_beat fX1_beat_10
    rw [e, if_pos (show nI 0 = 0 from rfl), h5 Z rfl, gdt, gdn hf (by omega), if_pos (show nI 0 = 0 from rfl), nIc (by omega)]
    exact c_beat33 h5 h6 hf
  · obtain ⟨d1, d2⟩ := done ((-6) * nI (pF c)) (nI (pF c)) (vp_nar .boolean (Z.1 8 a (c / 8) ||| 1)) (by rw [(pd_sink hF.2).1, if_pos e]) (by rw [(pd_sink hF.2).2, if_pos e]) (by
      rw [hu _ hf, if_pos (Or.inr e)]
      by_cases h1 : s.2.2 (c / 8) = true
      · rw [if_pos h1]
        rfl
      · rw [if_neg h1]
        rfl)
    refine ⟨zbt Z a (c / 8) ((-6) * nI (pF c)) (nI (pF c)) (vp_nar .boolean (Z.1 8 a (c / 8) ||| 1)), ?_, rfl, d1, d2⟩
    unfold fX1_beat fX1_beat_10
    rw [e, if_neg (show ¬ (nI 1 = 0) by decide), h5 Z rfl, gdt, gdn hf (by omega), if_neg (show ¬ (nI 1 = 0) by decide), nIc (by omega)]
    exact c_beat33 h5 h6 hf
/-! whether a pan may be brought in tune by so many blows -/
theorem c_tn_s (ha : cLv Z.2.2 5 a = true) (hr : zrep Z a s) (hb : pbd s B K) (hB : B ≤ 1000000) (hK : K ≤ 1000) {h l x k : Nat} (hh : h ≤ 15) (hl : l ≤ 3) (hx : x < 4) (fuel : Nat) : (pOk s h l x → lf5 (fX1_isTunable_5 Z) (fuel + 1) a (nI h) (nI l) (nI k) (nI x) = lf5 (fX1_isTunable_5 Z) fuel a (nI h) (nI l) (nI (k + pnd s h l x)) (nI (x + 1))) ∧ (¬ pOk s h l x → lf5 (fX1_isTunable_5 Z) (fuel + 1) a (nI h) (nI l) (nI k) (nI x) = some 0) := by
  obtain ⟨⟨b1, b2⟩, b3⟩ := hb x hx
  have et := (hr x hx).1
  have e1 : (Z.1 6 a x - nI h).toInt = s.1 x - h := by
    rw [tI_sub (by rw [et, nIi (by omega)]; omega) (by rw [et, nIi (by omega)]; omega), et, nIi (by omega)]
  have e0 : ((0 : Int32)).toInt = 0 := by decide
  have e5 : ((5 : Int32)).toInt = 5 := by decide
  obtain ⟨y, hy⟩ : ∃ y : Int32, y = (if 0 ≤ (Z.1 6 a x - nI h) then (Z.1 6 a x - nI h) else 0 - (Z.1 6 a x - nI h)) - 5 := ⟨_, rfl⟩
  have ey : y.toInt = (if 0 ≤ s.1 x - (h : Int) then s.1 x - (h : Int) else -(s.1 x - (h : Int))) - 5 := by
    rw [hy]
    by_cases hc : 0 ≤ s.1 x - (h : Int)
    · rw [if_pos hc, if_pos (by rw [i_le, e0, e1]; exact hc), tI_sub (by rw [e1, e5]; omega) (by rw [e1, e5]; omega), e1, e5]
    · have en : (0 - (Z.1 6 a x - nI h)).toInt = -(s.1 x - (h : Int)) := by
        rw [tI_sub (by rw [e0, e1]; omega) (by rw [e0, e1]; omega), e0, e1]
        omega
      rw [if_neg hc, if_neg (by rw [i_le, e0, e1]; exact hc), tI_sub (by rw [en, e5]; omega) (by rw [en, e5]; omega), en, e5]
  have c24 : (y ≤ 24 * nI l) ↔ -(5 + 24 * (l : Int)) ≤ s.1 x - h ∧ s.1 x - h ≤ 5 + 24 * (l : Int) := by
    rw [u_l24, i_le, nIi (by omega), ey]
    split <;> omega
  have c4 : (y ≤ 4 * nI l) ↔ -(5 + 4 * (l : Int)) ≤ s.1 x - h ∧ s.1 x - h ≤ 5 + 4 * (l : Int) := by
    rw [u_l4, i_le, nIi (by omega), ey]
    split <;> omega
  have step : lf5 (fX1_isTunable_5 Z) (fuel + 1) a (nI h) (nI l) (nI k) (nI x) = if (if s.2.1 x ≤ 6 then (0 : Int32) else 1) = 0 then (if y ≤ 24 * nI l then (if y ≤ 4 * nI l then lf5 (fX1_isTunable_5 Z) fuel a (nI h) (nI l) (nI k) (nI (x + 1)) else lf5 (fX1_isTunable_5 Z) fuel a (nI h) (nI l) (nI (k + 1)) (nI (x + 1))) else some 0) else some 0 := by
    rw [lf5_s]
    unfold fX1_isTunable_5
    rw [if_neg (show ¬ ((4 : Int32) ≤ nI x) from nI_ge (b := 4) hx (by omega)), ha, gdt, gdn hx (by omega), nIc (by omega), ← hy, bnd_e, c_cracked ha hr hb hK hx, cl1_s]
    unfold fX1_isTunable_58
    rw [bnd_e, bnd_e, bnd_e, u_a1, u_a1]
    rfl
  constructor
  · rintro ⟨q1, q2⟩
    rw [step, if_pos q1, if_pos (by decide), if_pos (c24.mpr q2)]
    unfold pnd
    by_cases q3 : -(5 + 4 * (l : Int)) ≤ s.1 x - h ∧ s.1 x - h ≤ 5 + 4 * (l : Int)
    · rw [if_pos (c4.mpr q3), if_pos q3]
      rfl
    · rw [if_neg (fun z => q3 (c4.mp z)), if_neg q3]
  · intro q
    rw [step]
    by_cases q1 : s.2.1 x ≤ 6
    · rw [if_pos q1, if_pos (by decide), if_neg (fun z => q ⟨q1, c24.mp z⟩)]
    · rw [if_neg q1, if_neg (by decide)]
theorem c_tunable (ha : cLv Z.2.2 5 a = true) (hr : zrep Z a s) (hb : pbd s B K) (hB : B ≤ 1000000) (hK : K ≤ 1000) {h l : Nat} (hh : h ≤ 15) (hl : l ≤ 3) : (pMay s h l → fX1_isTunable a (nI h) (nI l) Z = some 1) ∧ (¬ pMay s h l → fX1_isTunable a (nI h) (nI l) Z = some 0) := by
  have st := fun x k fuel (hx : x < 4) => c_tn_s ha hr hb hB hK hh hl (x := x) (k := k) hx fuel
  have u0 : ∀ r, lf5 (fX1_isTunable_5 Z) (95 + 1 + 1 + 1 + 1 + 1) a (nI h) (nI l) (nI 0) (nI 0) = r → fX1_isTunable a (nI h) (nI l) Z = r := fun r hr => hr
  by_cases q0 : pOk s h l 0
  · by_cases q1 : pOk s h l 1
    · by_cases q2 : pOk s h l 2
      · by_cases q3 : pOk s h l 3
        · have hall : ∀ f, f < 4 → pOk s h l f := fun f hf => by
            have : f = 0 ∨ f = 1 ∨ f = 2 ∨ f = 3 := by omega
            rcases this with rfl | rfl | rfl | rfl
            · exact q0
            · exact q1
            · exact q2
            · exact q3
          have n0 := pnd_le s h l 0
          have n1 := pnd_le s h l 1
          have n2 := pnd_le s h l 2
          have n3 := pnd_le s h l 3
          have e : ∀ r, fX1_isTunable_64 Z (nI l) (nI (pnd s h l 0 + pnd s h l 1 + pnd s h l 2 + pnd s h l 3)) = r → fX1_isTunable a (nI h) (nI l) Z = r := fun r hr => u0 r (by
            rw [(st 0 _ _ (by omega)).1 q0, (st 1 _ _ (by omega)).1 q1, (st 2 _ _ (by omega)).1 q2, (st 3 _ _ (by omega)).1 q3, lf5_s]
            unfold fX1_isTunable_5
            rw [if_pos (by decide), Nat.zero_add]
            exact hr)
          constructor
          · intro hm
            refine e _ ?_
            unfold fX1_isTunable_64
            rw [if_neg (nI_nlt hm.2 (by omega))]
            rfl
          · intro hm
            refine e _ ?_
            unfold fX1_isTunable_64
            rw [if_pos (nI_lt (Nat.not_le.mp (fun z => hm ⟨hall, z⟩)) (by omega))]
            rfl
        · refine ⟨fun q => absurd (q.1 3 (by omega)) q3, fun _ => u0 _ ?_⟩
          rw [(st 0 _ _ (by omega)).1 q0, (st 1 _ _ (by omega)).1 q1, (st 2 _ _ (by omega)).1 q2, (st 3 _ _ (by omega)).2 q3]
      · refine ⟨fun q => absurd (q.1 2 (by omega)) q2, fun _ => u0 _ ?_⟩
        rw [(st 0 _ _ (by omega)).1 q0, (st 1 _ _ (by omega)).1 q1, (st 2 _ _ (by omega)).2 q2]
    · refine ⟨fun q => absurd (q.1 1 (by omega)) q1, fun _ => u0 _ ?_⟩
      rw [(st 0 _ _ (by omega)).1 q0, (st 1 _ _ (by omega)).2 q1]
  · refine ⟨fun q => absurd (q.1 0 (by omega)) q0, fun _ => u0 _ ?_⟩
    rw [(st 0 _ _ (by omega)).2 q0]
end URP

/-! PURE PART. The class's search for a row of blows. -/
section URF
variable {Z : CZ} {a : Nat} {s : PS} {B K : Nat}
theorem c_copy_l {t a : Nat} (hta : t ≠ a) (h5t : cLv Z.2.2 5 t = true) (h5a : cLv Z.2.2 5 a = true) (h8 : ∀ f, f < 4 → Z.1 8 a f = 0 ∨ Z.1 8 a f = 1) : ∀ (d x fuel : Nat) (Z' : CZ), x + d = 4 → d < fuel → Z'.2 = Z.2 → (∀ k i, ¬ ((k = 6 ∨ k = 7 ∨ k = 8) ∧ i = t) → Z'.1 k i = Z.1 k i) → (∀ f, f < x → Z'.1 6 t f = Z.1 6 a f ∧ Z'.1 7 t f = Z.1 7 a f ∧ Z'.1 8 t f = Z.1 8 a f) → ∃ Z'' : CZ, lf4 fX1_copyFrom_2 fuel t a (nI x) Z' = some Z'' ∧ Z''.2 = Z.2 ∧ (∀ k i, ¬ ((k = 6 ∨ k = 7 ∨ k = 8) ∧ i = t) → Z''.1 k i = Z.1 k i) ∧ (∀ f, f < 4 → Z''.1 6 t f = Z.1 6 a f ∧ Z''.1 7 t f = Z.1 7 a f ∧ Z''.1 8 t f = Z.1 8 a f)
  | _, _, 0, _, _, hf, _, _, _ => absurd hf (by omega)
  | 0, x, fuel + 1, Z', hx, _, h2, hfr, hv => by
    refine ⟨Z', ?_, h2, hfr, by rw [show x = 4 by omega] at hv; exact hv⟩
    rw [lf4_s]
    unfold fX1_copyFrom_2
    rw [show x = 4 by omega, if_pos (by decide)]
    rfl
  | d + 1, x, fuel + 1, Z', hx, hf, h2, hfr, hv => by
    have hat : ∀ k, Z'.1 k a = Z.1 k a := fun k => hfr k a (fun q => hta q.2.symm)
    have l5t : cLv Z'.2.2 5 t = true := by
      rw [h2]
      exact h5t
    have l5a : cLv Z'.2.2 5 a = true := by
      rw [h2]
      exact h5a
    have step : lf4 fX1_copyFrom_2 (fuel + 1) t a (nI x) Z' = lf4 fX1_copyFrom_2 fuel t a (nI (x + 1)) (cuI (cuI (cuI Z' 6 t (upd (Z'.1 6 t) x (Z.1 6 a x))) 7 t (upd (Z'.1 7 t) x (Z.1 7 a x))) 8 t (upd (Z'.1 8 t) x (Z.1 8 a x))) := by
      rw [lf4_s]
      unfold fX1_copyFrom_2
      rw [if_neg (show ¬ ((4 : Int32) ≤ nI x) from nI_ge (b := 4) (by omega) (by omega)), l5t, gdt, l5a, gdt, gdn (by omega) (by omega), gdn (by omega) (by omega), bnd_e, gdn (by omega) (by omega), gdn (by omega) (by omega), bnd_e, gdn (by omega) (by omega), gdn (by omega) (by omega), bnd_e, bnd_e, nIc (by omega), u_a1, hat 6]
      rw [show (cuI Z' 6 t (upd (Z'.1 6 t) x (Z.1 6 a x))).1 7 a = Z.1 7 a from hat 7, show (cuI (cuI Z' 6 t (upd (Z'.1 6 t) x (Z.1 6 a x))) 7 t (upd ((cuI Z' 6 t (upd (Z'.1 6 t) x (Z.1 6 a x))).1 7 t) x (Z.1 7 a x))).1 8 a = Z.1 8 a from hat 8, vbb (h8 x (by omega))]
      rfl
    obtain ⟨Z'', z1, z2, z3, z4⟩ := c_copy_l hta h5t h5a h8 d (x + 1) fuel (cuI (cuI (cuI Z' 6 t (upd (Z'.1 6 t) x (Z.1 6 a x))) 7 t (upd (Z'.1 7 t) x (Z.1 7 a x))) 8 t (upd (Z'.1 8 t) x (Z.1 8 a x))) (by omega) (by omega) h2 (fun k i q => by
      rw [cuI_n (fun z => q ⟨Or.inr (Or.inr z.1), z.2⟩), cuI_n (fun z => q ⟨Or.inr (Or.inl z.1), z.2⟩), cuI_n (fun z => q ⟨Or.inl z.1, z.2⟩), hfr k i q]) (fun f hf => by
      have e6 : (cuI (cuI (cuI Z' 6 t (upd (Z'.1 6 t) x (Z.1 6 a x))) 7 t (upd (Z'.1 7 t) x (Z.1 7 a x))) 8 t (upd (Z'.1 8 t) x (Z.1 8 a x))).1 6 t = upd (Z'.1 6 t) x (Z.1 6 a x) := by rw [cuI_n (fun q => by omega), cuI_n (fun q => by omega), cuI_s]
      have e7 : (cuI (cuI (cuI Z' 6 t (upd (Z'.1 6 t) x (Z.1 6 a x))) 7 t (upd (Z'.1 7 t) x (Z.1 7 a x))) 8 t (upd (Z'.1 8 t) x (Z.1 8 a x))).1 7 t = upd (Z'.1 7 t) x (Z.1 7 a x) := by rw [cuI_n (fun q => by omega), cuI_s]
      have e8 : (cuI (cuI (cuI Z' 6 t (upd (Z'.1 6 t) x (Z.1 6 a x))) 7 t (upd (Z'.1 7 t) x (Z.1 7 a x))) 8 t (upd (Z'.1 8 t) x (Z.1 8 a x))).1 8 t = upd (Z'.1 8 t) x (Z.1 8 a x) := by rw [cuI_s]
      rw [e6, e7, e8]
      by_cases e : f = x
      · subst e
        rw [pk_us, pk_us, pk_us]
        exact ⟨rfl, rfl, rfl⟩
      · rw [pk_un e, pk_un e, pk_un e]
        exact hv f (by omega))
    exact ⟨Z'', by rw [step]; exact z1, z2, z3, z4⟩
theorem c_copy {t a : Nat} (hta : t ≠ a) (h5t : cLv Z.2.2 5 t = true) (h5a : cLv Z.2.2 5 a = true) (hr : zrep Z a s) : ∃ Z' : CZ, fX1_copyFrom t a Z = some Z' ∧ Z'.2 = Z.2 ∧ (∀ k i, ¬ ((k = 6 ∨ k = 7 ∨ k = 8) ∧ i = t) → Z'.1 k i = Z.1 k i) ∧ zrep Z' t s := by
  obtain ⟨Z', z1, z2, z3, z4⟩ := c_copy_l hta h5t h5a (fun f hf => by
    rw [(hr f hf).2.2]
    split
    · exact Or.inr rfl
    · exact Or.inl rfl) 4 0 100 Z (by omega) (by omega) rfl (fun _ _ _ => rfl) (fun f hf => by omega)
  refine ⟨Z', z1, z2, z3, fun f hf => ?_⟩
  obtain ⟨e6, e7, e8⟩ := z4 f hf
  rw [e6, e7, e8]
  exact hr f hf
theorem pTn_of {h : Nat} (hm : pMay s h 0) : pTn s h := fun f hf => by
  obtain ⟨q1, q2, q3⟩ := hm.1 f hf
  exact ⟨q1, by omega, by omega⟩
/-- what a search tells -/
def pFound (h l place : Nat) (s : PS) (Z' : CZ) (n : Nat) : Prop := n < 32 ^ l ∧ pGood h (dg l n) s ∧ (∀ n', n' < n → ¬ pGood h (dg l n') s) ∧ ∀ j, j < l → Z'.1 15 0 (place + j) = nI ((dg l n).getD j 0)
def pNone (h l : Nat) (s : PS) : Prop := ∀ n, n < 32 ^ l → ¬ pGood h (dg l n) s
theorem c_fill {h : Nat} (hh : h ≤ 15) : ∀ (l place a dp : Nat) (Z : CZ) (s : PS) (B K : Nat), place + l ≤ 3 → l < dp → a < 6 + place → cLv Z.2.2 5 a = true → uLs Z 3 3 (fun t => 6 + t) → zrep Z a s → pbd s B K → B + 24 * l ≤ 1000000 → K + l ≤ 1000 → ∃ Z' : CZ, zfr (6 + place) place Z Z' ∧ ((∃ n, fX3_fillRow dp a (nI place) (nI l) (nI h) Z = some (1, Z') ∧ pFound h l place s Z' n) ∨ (fX3_fillRow dp a (nI place) (nI l) (nI h) Z = some (0, Z') ∧ pNone h l s))
  | _, _, _, 0, _, _, _, _, _, hd, _, _, _, _, _, _, _ => absurd hd (by omega)
  | 0, place, a, dp + 1, Z, s, B, K, hp, hd, ha, h5, hls, hr, hb, hB, hK => by
    have tn := c_tunable h5 hr hb (by omega) (by omega) hh (l := 0) (by omega)
    by_cases hm : pMay s h 0
    · refine ⟨Z, zfr.rf, Or.inl ⟨0, ?_, by decide, pTn_of hm, fun n' hn => absurd hn (by omega), fun j hj => absurd hj (by omega)⟩⟩
      show lf5 fX3_fillRow_step (dp + 1) a (nI place) (nI 0) (nI h) Z = _
      rw [lf5_s]
      unfold fX3_fillRow_step
      rw [h5, gdt, tn.1 hm, cl1_s, if_neg (by decide), if_neg (by decide)]
    · refine ⟨Z, zfr.rf, Or.inr ⟨?_, fun n hn hg => hm (by
        have := pMay_of h (dg 0 n) s (dg_lt 0 n) hg
        rw [dg_len] at this
        exact this)⟩⟩
      show lf5 fX3_fillRow_step (dp + 1) a (nI place) (nI 0) (nI h) Z = _
      rw [lf5_s]
      unfold fX3_fillRow_step
      rw [h5, gdt, tn.2 hm, cl1_s, if_pos (by decide)]
  | l + 1, place, a, dp + 1, Z, s, B, K, hp, hd, ha, h5, hls, hr, hb, hB, hK => by
    have tn := c_tunable h5 hr hb (by omega) (by omega) hh (l := l + 1) (by omega)
    by_cases hm : pMay s h (l + 1)
    · have loop : ∀ (d c fuel : Nat) (Z' : CZ), c + d = 32 → d < fuel → zfr (6 + place) place Z Z' → (∀ n, n < c * 32 ^ l → ¬ pGood h (dg (l + 1) n) s) → ∃ Z'' : CZ, zfr (6 + place) place Z Z'' ∧ ((∃ n, lf7 (fX3_fillRow_53 (fX3_fillRow dp)) fuel a (nI place) (nI (l + 1)) (nI h) (6 + place) (nI c) Z' = some (1, Z'') ∧ pFound h (l + 1) place s Z'' n) ∨ (lf7 (fX3_fillRow_53 (fX3_fillRow dp)) fuel a (nI place) (nI (l + 1)) (nI h) (6 + place) (nI c) Z' = some (0, Z'') ∧ pNone h (l + 1) s)) := by
        intro d
        induction d with
        | zero =>
          intro c fuel Z' hc hf hz hn
          obtain ⟨fuel, rfl⟩ : ∃ y, fuel = y + 1 := ⟨fuel - 1, by omega⟩
          refine ⟨Z', hz, Or.inr ⟨?_, fun n hn' => hn n (by
            rw [show c = 32 by omega]
            rw [Nat.pow_succ] at hn'
            omega)⟩⟩
          rw [lf7_s]
          unfold fX3_fillRow_53
          rw [show c = 32 by omega, if_pos (by decide)]
          rfl
        | succ d ih =>
          intro c fuel Z' hc hf hz hn
          obtain ⟨fuel, rfl⟩ : ∃ y, fuel = y + 1 := ⟨fuel - 1, by omega⟩
          have hc32 : c < 32 := by omega
          have hF := pF_le c
          have h5' : ∀ Z1 : CZ, Z1.2 = Z'.2 → cLv Z1.2.2 5 a = true := fun Z1 e => by
            rw [e, hz.1]
            exact h5
          have h5t : ∀ Z1 : CZ, Z1.2 = Z'.2 → cLv Z1.2.2 5 (6 + place) = true := fun Z1 e => cLv5t (by omega) (by omega)
          have hr' : zrep Z' a s := hz.rep ha hr
          have e80 : lf7 (fX3_fillRow_53 (fX3_fillRow dp)) (fuel + 1) a (nI place) (nI (l + 1)) (nI h) (6 + place) (nI c) Z' = fX3_fillRow_80 (fX3_fillRow dp) (lf7 (fX3_fillRow_53 (fX3_fillRow dp)) fuel) a (nI place) (nI (l + 1)) (nI h) (6 + place) (nI c) (nI (c / 8)) (nI (c % 2)) Z' := by
            rw [lf7_s]
            rw [show fX3_fillRow_53 (fX3_fillRow dp) (lf7 (fX3_fillRow_53 (fX3_fillRow dp)) fuel) a (nI place) (nI (l + 1)) (nI h) (6 + place) (nI c) Z' = (if (32 : Int32) ≤ nI c then fX3_fillRow_149 (fX3_fillRow dp) Z' else bnd (nI c / 8) (fun v9 => if irm (nI c) 2 = 1 then fX3_fillRow_80 (fX3_fillRow dp) (lf7 (fX3_fillRow_53 (fX3_fillRow dp)) fuel) a (nI place) (nI (l + 1)) (nI h) (6 + place) (nI c) v9 1 Z' else fX3_fillRow_80 (fX3_fillRow dp) (lf7 (fX3_fillRow_53 (fX3_fillRow dp)) fuel) a (nI place) (nI (l + 1)) (nI h) (6 + place) (nI c) v9 0 Z')) from rfl, if_neg (show ¬ ((32 : Int32) ≤ nI c) from nI_ge (b := 32) hc32 (by omega)), u_d8 (by omega), u_e2 (by omega), bnd_e]
            have : c % 2 = 0 ∨ c % 2 = 1 := by omega
            rcases this with e | e
            · rw [e, if_neg (by decide)]
              rfl
            · rw [e, if_pos (by decide)]
              rfl
          have next : ∀ Z1 : CZ, fX3_fillRow_143 (fX3_fillRow dp) (lf7 (fX3_fillRow_53 (fX3_fillRow dp)) fuel) a (nI place) (nI (l + 1)) (nI h) (6 + place) (nI c) Z1 = lf7 (fX3_fillRow_53 (fX3_fillRow dp)) fuel a (nI place) (nI (l + 1)) (nI h) (6 + place) (nI (c + 1)) Z1 := fun Z1 => by
            show lf7 (fX3_fillRow_53 (fX3_fillRow dp)) fuel a (nI place) (nI (l + 1)) (nI h) (6 + place) (nI c + 1) Z1 = _
            rw [u_a1]
          have grow : (∀ m, m < 32 ^ l → ¬ pGood h (c :: dg l m) s) → ∀ n, n < (c + 1) * 32 ^ l → ¬ pGood h (dg (l + 1) n) s := fun hg n hn' => by
            rcases dg_split (by omega) hn' with q | ⟨m, m1, m2⟩
            · exact hn n q
            · rw [m2, dg_cons (by omega) hc32 m1]
              exact hg m m1
          rcases c_bears (h5' Z' rfl) hr' hb (by omega) hc32 with ⟨p1, p2⟩ | ⟨p1, p2⟩
          · obtain ⟨Zc, y1, y2, y3, y4⟩ := c_copy (t := 6 + place) (a := a) (by omega) (h5t Z' rfl) (h5' Z' rfl) hr'
            obtain ⟨Zb, x1, x2, x3, x4⟩ := c_beat (a := 6 + place) (fun Z1 e => h5t Z1 (e.trans y2)) (h5t Zc y2) y4 hb (by omega) hc32
            have hz20 : zfr (6 + place) place Z' (cuI Zb 15 0 (upd (Zb.1 15 0) place (nI c))) := by
              refine ⟨by rw [show (cuI Zb 15 0 (upd (Zb.1 15 0) place (nI c))).2 = Zb.2 from rfl, x2, y2], fun k i q q2 => ?_, fun i j hj => ?_⟩
              · rw [cuI_n (fun z => q2 z.1), x3 k i (fun z => q ⟨z.1, by omega, by omega⟩), y3 k i (fun z => q ⟨z.1, by omega, by omega⟩)]
              · have e15 : ∀ i, Zb.1 15 i = Z'.1 15 i := fun i => by rw [x3 15 i (fun z => by omega), y3 15 i (fun z => by omega)]
                by_cases hi : i = 0
                · subst hi
                  rw [cuI_s, pk_un (by omega), e15]
                · rw [cuI_n (fun z => hi z.2), e15]
            have hr20 : zrep (cuI Zb 15 0 (upd (Zb.1 15 0) place (nI c))) (6 + place) (pt s c) := x4
            have hls20 : uLs (cuI Zb 15 0 (upd (Zb.1 15 0) place (nI c))) 3 3 (fun t => 6 + t) := hls.of (by
              funext i
              rw [hz20.2.1 3 i (fun z => by omega) (by omega), hz.2.1 3 i (fun z => by omega) (by omega)]) (hz20.1.trans hz.1)
            obtain ⟨Z22, w1, w2⟩ := c_fill hh l (place + 1) (6 + place) dp (cuI Zb 15 0 (upd (Zb.1 15 0) place (nI c))) (pt s c) (B + 24) (K + 1) (by omega) (by omega) (by omega) (h5t _ (by rw [show (cuI Zb 15 0 (upd (Zb.1 15 0) place (nI c))).2 = Zb.2 from rfl, x2, y2])) hls20 hr20 (hb.pt c) (by omega) (by omega)
            have hz22 : zfr (6 + place) place Z Z22 := (hz.tr hz20).tr (w1.weak (by omega) (by omega))
            have e80b : ∀ r, cl2 (fX3_fillRow dp (6 + place) (nI (place + 1)) (nI l) (nI h) (cuI Zb 15 0 (upd (Zb.1 15 0) place (nI c)))) (fun v21 Z22 => if v21 = 0 then lf7 (fX3_fillRow_53 (fX3_fillRow dp)) fuel a (nI place) (nI (l + 1)) (nI h) (6 + place) (nI (c + 1)) Z22 else some (1, Z22)) = r → lf7 (fX3_fillRow_53 (fX3_fillRow dp)) (fuel + 1) a (nI place) (nI (l + 1)) (nI h) (6 + place) (nI c) Z' = r := fun r hr => by
              rw [e80]
              unfold fX3_fillRow_80
              rw [h5' Z' rfl, gdt, p2, cl1_s, if_neg (by decide), h5t Z' rfl, gdt, y1, cl1_s, h5t Zc y2, gdt, u_e8 (by omega), u_d2 (by omega), u_a1, show nI (c % 8 / 2 + 1) = nI (pF c) from rfl, x1, cl1_s, gdn (by omega) (by omega), bnd_e, nIc (by omega), u_a1, u_s1 (by omega), Nat.add_sub_cancel]
              rw [← hr]
              simp only [next]
              rfl
            rcases w2 with ⟨n0, v1, v2, v3, v4, v5⟩ | ⟨v1, v2⟩
            · refine ⟨Z22, hz22, Or.inl ⟨c * 32 ^ l + n0, e80b _ ?_, dg_lt32 hc32 v2, ?_, fun n' hn' hg => ?_, fun j hj => ?_⟩⟩
              · rw [v1, cl2_s, if_neg (by decide)]
              · rw [dg_cons (by omega) hc32 v2]
                exact ⟨p1, v3⟩
              · by_cases hlt : n' < c * 32 ^ l
                · exact hn n' hlt hg
                · have m2 : n' = c * 32 ^ l + (n' - c * 32 ^ l) := by omega
                  rw [m2, dg_cons (by omega) hc32 (by omega)] at hg
                  exact v4 (n' - c * 32 ^ l) (by omega) hg.2
              · rw [dg_cons (by omega) hc32 v2]
                by_cases hj0 : j = 0
                · subst hj0
                  show Z22.1 15 0 place = nI c
                  rw [w1.2.2 0 place (by omega), cuI_s, pk_us]
                · obtain ⟨j, rfl⟩ : ∃ y, j = y + 1 := ⟨j - 1, by omega⟩
                  have := v5 j (by omega)
                  rw [show place + 1 + j = place + (j + 1) by omega] at this
                  rw [this]
                  rfl
            · have ng : ∀ m, m < 32 ^ l → ¬ pGood h (c :: dg l m) s := fun m hm hg => v2 m hm hg.2
              obtain ⟨Z3, t1, t2⟩ := ih (c + 1) fuel Z22 (by omega) (by omega) hz22 (grow ng)
              have eq : lf7 (fX3_fillRow_53 (fX3_fillRow dp)) (fuel + 1) a (nI place) (nI (l + 1)) (nI h) (6 + place) (nI c) Z' = lf7 (fX3_fillRow_53 (fX3_fillRow dp)) fuel a (nI place) (nI (l + 1)) (nI h) (6 + place) (nI (c + 1)) Z22 := e80b _ (by rw [v1, cl2_s, if_pos (by decide)])
              rw [eq]
              exact ⟨Z3, t1, t2⟩
          · have ng : ∀ m, m < 32 ^ l → ¬ pGood h (c :: dg l m) s := fun m hm hg => p1 hg.1
            obtain ⟨Z3, t1, t2⟩ := ih (c + 1) fuel Z' (by omega) (by omega) hz (grow ng)
            have eq : lf7 (fX3_fillRow_53 (fX3_fillRow dp)) (fuel + 1) a (nI place) (nI (l + 1)) (nI h) (6 + place) (nI c) Z' = lf7 (fX3_fillRow_53 (fX3_fillRow dp)) fuel a (nI place) (nI (l + 1)) (nI h) (6 + place) (nI (c + 1)) Z' := by
              rw [e80]
              unfold fX3_fillRow_80
              rw [h5' Z' rfl, gdt, p2, cl1_s, if_pos (by decide)]
              exact next Z'
            rw [eq]
            exact ⟨Z3, t1, t2⟩
      obtain ⟨Z3, t1, t2⟩ := loop 32 0 100 Z (by omega) (by omega) zfr.rf (fun n hn => absurd hn (by omega))
      have eq : fX3_fillRow (dp + 1) a (nI place) (nI (l + 1)) (nI h) Z = lf7 (fX3_fillRow_53 (fX3_fillRow dp)) 100 a (nI place) (nI (l + 1)) (nI h) (6 + place) (nI 0) Z := by
        show lf5 fX3_fillRow_step (dp + 1) a (nI place) (nI (l + 1)) (nI h) Z = _
        rw [lf5_s]
        rw [show fX3_fillRow_step (lf5 fX3_fillRow_step dp) a (nI place) (nI (l + 1)) (nI h) Z = gd (cLv Z.2.2 5 a) (cl1 (fX1_isTunable a (nI h) (nI (l + 1)) Z) (fun v2 => (if v2 = 0 then some ((0 : Int32), Z) else (if 0 < nI (l + 1) then (if nI place < 0 then fX3_fillRow_38 (lf5 fX3_fillRow_step dp) Z else (if (3 : Int32) ≤ nI place then fX3_fillRow_38 (lf5 fX3_fillRow_step dp) Z else cl1 (fJx4a65c_size_8abf5 3 Z) (fun v4 => (if nI place < v4 then cl1 (fJx4a65c_get_915e3 3 (nI place) Z) (fun q6 => gd (cLv Z.2.2 5 q6) (lf7 (fX3_fillRow_53 (lf5 fX3_fillRow_step dp)) 100 a (nI place) (nI (l + 1)) (nI h) q6 (0 : Int32) Z)) else fX3_fillRow_38 (lf5 fX3_fillRow_step dp) Z)))) else some ((1 : Int32), Z))))) from rfl]
        rw [h5, gdt, tn.1 hm, cl1_s, if_neg (by decide), if_pos (show (0 : Int32) < nI (l + 1) from nI_lt (a := 0) (by omega) (by omega)), if_neg (nI_pos (by omega)), if_neg (show ¬ ((3 : Int32) ≤ nI place) from nI_ge (b := 3) (by omega) (by omega)), hls.size (by omega), cl1_s, if_pos (nI_lt (by omega) (by omega)), hls.get (by omega) (show place < 3 by omega), cl1_s, cLv5t (by omega) (by omega), gdt]
        rfl
      rw [eq]
      exact ⟨Z3, t1, t2⟩
    · refine ⟨Z, zfr.rf, Or.inr ⟨?_, fun n hn hg => hm (by
        have := pMay_of h (dg (l + 1) n) s (dg_lt (l + 1) n) hg
        rw [dg_len] at this
        exact this)⟩⟩
      show lf5 fX3_fillRow_step (dp + 1) a (nI place) (nI (l + 1)) (nI h) Z = _
      rw [lf5_s]
      unfold fX3_fillRow_step
      rw [h5, gdt, tn.2 hm, cl1_s, if_pos (by decide)]
/-- the class's plan -/
theorem c_find {h a : Nat} (hh : h ≤ 15) (ha : a < 6) {s : PS} {B K : Nat} (hb : pbd s B K) (hB : B ≤ 100000) (hK : K ≤ 900) : ∀ (d l fuel : Nat) (Z : CZ), l + d = 4 → d < fuel → cLv Z.2.2 5 a = true → uLs Z 3 3 (fun t => 6 + t) → zrep Z a s → ∃ Z' : CZ, zfr 6 0 Z Z' ∧ ((∃ l0 n, l ≤ l0 ∧ l0 ≤ 3 ∧ lf4 fX3_findRow_2 fuel a (nI h) (nI l) Z = some (nI l0, Z') ∧ pFound h l0 0 s Z' n ∧ ∀ l', l ≤ l' → l' < l0 → pNone h l' s) ∨ (lf4 fX3_findRow_2 fuel a (nI h) (nI l) Z = some (-1, Z') ∧ ∀ l', l ≤ l' → l' ≤ 3 → pNone h l' s))
  | _, _, 0, _, _, hf, _, _, _ => absurd hf (by omega)
  | 0, l, fuel + 1, Z, hl, _, _, _, _ => by
    refine ⟨Z, zfr.rf, Or.inr ⟨?_, fun l' h1 h2 => by omega⟩⟩
    rw [lf4_s]
    unfold fX3_findRow_2
    rw [show l = 4 by omega, if_pos (by decide)]
    rfl
  | d + 1, l, fuel + 1, Z, hl, hf, h5, hls, hr => by
    obtain ⟨Z1, z1, z2⟩ := c_fill hh l 0 a 5 Z s B K (by omega) (by omega) (by omega) h5 hls hr hb (by omega) (by omega)
    have step : ∀ r, cl2 (fX3_fillRow 5 a (nI 0) (nI l) (nI h) Z) (fun v1 Z2 => if v1 = 0 then lf4 fX3_findRow_2 fuel a (nI h) (nI (l + 1)) Z2 else some (nI l, Z2)) = r → lf4 fX3_findRow_2 (fuel + 1) a (nI h) (nI l) Z = r := fun r hr => by
      rw [lf4_s]
      rw [show fX3_findRow_2 (lf4 fX3_findRow_2 fuel) a (nI h) (nI l) Z = (if (3 : Int32) < nI l then fX3_findRow_33 Z else cl2 (fX3_fillRow 5 a 0 (nI l) (nI h) Z) (fun v1 Z2 => if v1 = 0 then lf4 fX3_findRow_2 fuel a (nI h) (nI l + 1) Z2 else some (nI l, Z2))) from rfl, if_neg (show ¬ ((3 : Int32) < nI l) from nI_nlt (a := 3) (by omega) (by omega)), u_a1]
      exact hr
    rcases z2 with ⟨n, v1, v2⟩ | ⟨v1, v2⟩
    · exact ⟨Z1, z1, Or.inl ⟨l, n, Nat.le_refl l, by omega, step _ (by rw [v1, cl2_s, if_neg (by decide)]), v2, fun l' h1 h2 => by omega⟩⟩
    · have hls1 : uLs Z1 3 3 (fun t => 6 + t) := hls.of (funext fun i => z1.2.1 3 i (fun z => by omega) (by omega)) z1.1
      obtain ⟨Z2, y1, y2⟩ := c_find hh ha hb hB hK d (l + 1) fuel Z1 (by omega) (by omega) (by rw [z1.1]; exact h5) hls1 (z1.rep (by omega) hr)
      have eq : lf4 fX3_findRow_2 (fuel + 1) a (nI h) (nI l) Z = lf4 fX3_findRow_2 fuel a (nI h) (nI (l + 1)) Z1 := step _ (by rw [v1, cl2_s, if_pos (by decide)])
      rw [eq]
      refine ⟨Z2, z1.tr y1, ?_⟩
      rcases y2 with ⟨l0, n, w1, w2, w3, w4, w5⟩ | ⟨w1, w2⟩
      · exact Or.inl ⟨l0, n, by omega, w2, w3, w4, fun l' h1 h2 => by
          by_cases e : l' = l
          · rw [e]
            exact v2
          · exact w5 l' (by omega) h2⟩
      · exact Or.inr ⟨w1, fun l' h1 h2 => by
          by_cases e : l' = l
          · rw [e]
            exact v2
          · exact w2 l' (by omega) h2⟩
end URF

