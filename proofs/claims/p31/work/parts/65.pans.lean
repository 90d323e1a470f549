/-! PURE PART. The model's scratch pan. -/
theorem vu_i {α : Type} {f : Nat → α} {k : Nat} {v w : α} : va_up (va_up f k v) k w = va_up f k w := funext fun j => by
  by_cases h : j = k
  · subst h
    rw [vu_s, vu_s]
  · rw [vu_n h, vu_n h, vu_n h]
section URQ
variable {M : MT} {a : Nat} {s : PS} {B K : Nat}
def mrep (M : MT) (s : PS) : Prop := prep (M 7) (M 8) (M 9) s
def trep (M : MT) (a : Nat) (s : PS) : Prop := prep (fun f => M 4 (4 * a + f)) (fun f => M 5 (4 * a + f)) (fun f => M 6 (4 * a + f)) s
/-- the model's scratch after a blow -/
def mbt (M : MT) (f : Nat) (d0 d1 v : Int32) : MT := va_up (va_up (va_up M 7 (brow (M 7) f d0 d1)) 8 (upd (M 8) f (M 8 f + 1))) 9 (upd (M 9) f v)
def pT1 (s : PS) (h : Int) (f : Nat) : Prop := s.2.1 f ≤ 6 ∧ -5 ≤ s.1 f - h ∧ s.1 f - h ≤ 5
/-! a row of blows on the scratch -/
theorem u_m1s (x : Int32) : x + (-1) = x - 1 := by
  rw [Int32.sub_eq_add_neg]
theorem m_shift {d row : Nat} (hd : d ≤ 2) (hr : row < 32768) : (nI row >>> (((5 : Int32) * nI d) &&& 31)) &&& 31 = nI (row / 32 ^ d % 32) := by
  have : d = 0 ∨ d = 1 ∨ d = 2 := by omega
  rcases this with rfl | rfl | rfl
  · rw [pk_shrN (by omega) (((5 : Int32) * nI 0) &&& 31) 0 (by decide), pk_andN (Nat.lt_of_le_of_lt (Nat.div_le_self _ _) (by omega)) 5 (by decide)]
  · rw [pk_shrN (by omega) (((5 : Int32) * nI 1) &&& 31) 5 (by decide), pk_andN (Nat.lt_of_le_of_lt (Nat.div_le_self _ _) (by omega)) 5 (by decide)]
  · rw [pk_shrN (by omega) (((5 : Int32) * nI 2) &&& 31) 10 (by decide), pk_andN (Nat.lt_of_le_of_lt (Nat.div_le_self _ _) (by omega)) 5 (by decide)]
theorem m_top {d : Nat} (hd : d ≤ 3) : ((1 : Int32) <<< (((5 : Int32) * nI d) &&& 31)) = nI (32 ^ d) := by
  have : d = 0 ∨ d = 1 ∨ d = 2 ∨ d = 3 := by omega
  rcases this with rfl | rfl | rfl | rfl <;> decide
end URQ

/-! PURE PART. field, isInTune, blow, plan. -/
section URB
variable {n : Nat} {Z : CZ} {M : MT} {S C : Nat → Nat} {E P : Nat → Nat → Nat}
def uPS (M : MT) (i : Nat) : PS := (fun f => (M 4 (4 * i + f)).toInt, fun f => (M 5 (4 * i + f)).toNatClampNeg, fun f => decide (M 6 (4 * i + f) = 1))
theorem uRR.trep (h : uRR n Z M S C E P) {i : Nat} (hi : i < Z.2.2 0) : trep M i (uPS M i) := fun f hf => by
  obtain ⟨_, _, _, _, ⟨c, c1, c2⟩, u⟩ := h.2.1.2.2.2.1 i f hi hf
  refine ⟨rfl, ?_, ?_⟩
  · show M 5 (4 * i + f) = nI (M 5 (4 * i + f)).toNatClampNeg
    rw [c2, nIc (by omega)]
  · show M 6 (4 * i + f) = if decide (M 6 (4 * i + f) = 1) = true then 1 else 0
    rcases u with u | u
    · rw [u]
      rfl
    · rw [u]
      rfl
theorem uRR.zrep (h : uRR n Z M S C E P) {i : Nat} (hi : i < Z.2.2 0) : zrep Z i (uPS M i) := fun f hf => by
  obtain ⟨e6, e7, e8, _⟩ := h.2.1.2.2.2.1 i f hi hf
  rw [e6, e7, e8]
  exact h.trep hi f hf
theorem uRR.pbd (h : uRR n Z M S C E P) {i : Nat} (hi : i < Z.2.2 0) : pbd (uPS M i) (60 + 24 * n) 7 := fun f hf => by
  obtain ⟨_, _, _, b, ⟨c, c1, c2⟩, _⟩ := h.2.1.2.2.2.1 i f hi hf
  refine ⟨⟨?_, ?_⟩, ?_⟩
  · show -((60 + 24 * n : Nat) : Int) ≤ (M 4 (4 * i + f)).toInt
    omega
  · show (M 4 (4 * i + f)).toInt ≤ ((60 + 24 * n : Nat) : Int)
    omega
  · show (M 5 (4 * i + f)).toNatClampNeg ≤ 7
    rw [c2, nIc (by omega)]
    exact c1
theorem pMay_iff {s : PS} {h : Nat} : pMay s h 0 ↔ pTn s h := ⟨pTn_of, fun q => pMay_of h [] s (fun c hc => absurd hc List.not_mem_nil) q⟩
theorem c_tuned (hn : n < 512) (h : uRR n Z M S C E P) {i : Nat} (hi : i < Z.2.2 0) {hh : Nat} (h15 : hh ≤ 15) : (pTn (uPS M i) hh → fX1_isTunable i (nI hh) 0 Z = some 1) ∧ (¬ pTn (uPS M i) hh → fX1_isTunable i (nI hh) 0 Z = some 0) := by
  have := c_tunable (cLv5 hi) (h.zrep hi) (h.pbd hi) (by omega) (by omega) h15 (l := 0) (by omega)
  exact ⟨fun q => this.1 (pMay_iff.mpr q), fun q => this.2 (fun z => q (pMay_iff.mp z))⟩
theorem uRR.scr3 {M' : MT} (h : uRR n Z M S C E P) (hM : ∀ k, k ≠ 7 → k ≠ 8 → k ≠ 9 → M' k = M k) : uRR n Z M' S C E P := h.scr (fun k _ k7 k8 k9 _ _ _ => hM k k7 k8 k9)
/-! blow -/
/-! plan -/
theorem m_shift3 {d row : Nat} (hd : d ≤ 3) (hr : row < 32768) : (nI row >>> (((5 : Int32) * nI d) &&& 31)) &&& 31 = nI (row / 32 ^ d % 32) := by
  by_cases h : d ≤ 2
  · exact m_shift h hr
  · rw [show d = 3 by omega, pk_shrN (by omega) (((5 : Int32) * nI 3) &&& 31) 15 (by decide), pk_andN (Nat.lt_of_le_of_lt (Nat.div_le_self _ _) (by omega)) 5 (by decide)]
theorem dg_get : ∀ (l n j : Nat), j < l → (dg l n).getD j 0 = n / 32 ^ (l - 1 - j) % 32
  | 0, _, _, h => absurd h (by omega)
  | l + 1, n, 0, _ => rfl
  | l + 1, n, j + 1, h => by
    show (dg l n).getD j 0 = _
    rw [dg_get l n j (by omega), show l + 1 - 1 - (j + 1) = l - 1 - j by omega]
theorem u_zfr {Z' : CZ} (hz : zfr 6 0 Z Z') (h : uRR n Z M S C E P) : uRR n Z' M S C E P := by
  have zk : ∀ k, k ≠ 6 → k ≠ 7 → k ≠ 8 → k ≠ 15 → Z'.1 k = Z.1 k := fun k k6 k7 k8 k15 => funext fun j => hz.2.1 k j (fun q => q.1.elim k6 (fun q => q.elim k7 k8)) k15
  have zi : ∀ k i, i < 6 → k ≠ 15 → Z'.1 k i = Z.1 k i := fun k i hi k15 => hz.2.1 k i (fun q => by omega) k15
  obtain ⟨r1, r2, r⟩ := h
  unfold uRR
  rw [hz.1, zk 0 (by omega) (by omega) (by omega) (by omega), zk 3 (by omega) (by omega) (by omega) (by omega), zk 5 (by omega) (by omega) (by omega) (by omega), zk 9 (by omega) (by omega) (by omega) (by omega), zk 10 (by omega) (by omega) (by omega) (by omega), zk 11 (by omega) (by omega) (by omega) (by omega), zk 12 (by omega) (by omega) (by omega) (by omega), zk 14 (by omega) (by omega) (by omega) (by omega)]
  refine ⟨r1, ⟨r2.1, r2.2.1, r2.2.2.1, fun i f hi hf => ?_, r2.2.2.2.2⟩, r⟩
  have := r2.1
  rw [zi 6 i (by omega) (by omega), zi 7 i (by omega) (by omega), zi 8 i (by omega) (by omega)]
  exact r2.2.2.2.1 i f hi hf
end URB

