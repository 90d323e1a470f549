/-! PURE PART. What holds between the class's state and the model's after n calls. S b seats and C b notes has the band b; E b k is the number of the seat k of b (in the order of making), P b k its player. -/
def oi (o : Option Nat) : Int32 := op2 o (-1) nI
def uR1 (z : Nat → Int32) (m1 m2 : Int32) : Prop := z 5 = m2 ∧ z 6 = m1 ∧ (∃ h, h ≤ 15 ∧ m2 = nI h) ∧ ∃ t, t ≤ 1000 ∧ m1 = nI t
def uR2 (n np : Nat) (z5 z6 z7 z8 : Nat → Nat → Int32) (m3 : Int32) (m4 m5 m6 : Nat → Int32) : Prop := np ≤ 6 ∧ m3 = nI np ∧ (∀ i, i < np → z5 i 0 = nI i) ∧ (∀ i f, i < np → f < 4 → z6 i f = m4 (4 * i + f) ∧ z7 i f = m5 (4 * i + f) ∧ z8 i f = m6 (4 * i + f) ∧ (-(60 + 24 * (n : Int)) ≤ (m4 (4 * i + f)).toInt ∧ (m4 (4 * i + f)).toInt ≤ 60 + 24 * (n : Int)) ∧ (∃ c, c ≤ 7 ∧ m5 (4 * i + f) = nI c) ∧ (m6 (4 * i + f) = 0 ∨ m6 (4 * i + f) = 1)) ∧ ∀ j, 4 * np ≤ j → j < 24 → m5 j = 0 ∧ m6 j = 0
def uR3 (np nl : Nat) (z3 : Nat → Nat → Int32) (q4 : Nat → Nat → Option Nat) (cp : Nat → Nat) : Prop := uL (z3 0) (q4 0) (cp 10) np id ∧ uL (z3 1) (q4 1) (cp 11) nl id ∧ uL (z3 2) (q4 2) (cp 12) 4 id ∧ uL (z3 3) (q4 3) (cp 13) 3 (fun t => 6 + t)
def uR4 (S : Nat → Nat) (E : Nat → Nat → Nat) (z3 : Nat → Nat → Int32) (q4 : Nat → Nat → Option Nat) (cp : Nat → Nat) : Prop := ∀ b, b < 4 → uL (z3 (b + 4)) (q4 (b + 4)) (cp (10 + (b + 4))) (S b) (E b)
def uR5 (nl : Nat) (z9 : Nat → Nat → Int32) (m10 : Int32) (m11 m13 m14 : Nat → Int32) : Prop := nl ≤ 16 ∧ m10 = nI nl ∧ ∀ i, i < nl → z9 i 0 = nI i ∧ z9 i 1 = m11 i ∧ (m11 i = 0 ∨ m11 i = 1) ∧ z9 i 4 = m13 i ∧ (m13 i ≠ -1 → z9 i 5 = m14 i / 30)
def uR6 (np nl : Nat) (q9 : Nat → Nat → Option Nat) (z5 : Nat → Nat → Int32) (m12 : Nat → Int32) : Prop := (∀ i, i < nl → m12 i = oi (q9 i 2) ∧ ∀ q, q9 i 2 = some q → q < np) ∧ (∀ i i' q, i < nl → i' < nl → q9 i 2 = some q → q9 i' 2 = some q → i = i') ∧ ∀ q, q < np → (z5 q 4 = 1 ∧ ∃ i, i < nl ∧ q9 i 2 = some q) ∨ (z5 q 4 = 0 ∧ ∀ i, i < nl → q9 i 2 ≠ some q)
def uR7 (nl ns : Nat) (S : Nat → Nat) (E P : Nat → Nat → Nat) (q13 : Nat → Nat → Option Nat) (m15 m16 : Nat → Int32) : Prop := (∀ b, b < 4 → S b ≤ 8 ∧ m15 b = nI (S b)) ∧ (∀ b k, b < 4 → k < S b → E b k < ns ∧ P b k < nl ∧ q13 (E b k) 0 = some (P b k) ∧ m16 (8 * b + k) = nI (P b k)) ∧ (∀ b k k', b < 4 → k < S b → k' < S b → P b k = P b k' → k = k') ∧ (∀ b k b' k', b < 4 → k < S b → b' < 4 → k' < S b' → E b k = E b' k' → b = b' ∧ k = k') ∧ ∀ j p, j < ns → q13 j 0 = some p → p < nl
def uin (S : Nat → Nat) (P : Nat → Nat → Nat) (b i : Nat) : Nat := if (List.range (S b)).any (fun k => P b k == i) = true then 1 else 0
def ucnt (S : Nat → Nat) (P : Nat → Nat → Nat) (i : Nat) : Nat := uin S P 0 i + uin S P 1 i + uin S P 2 i + uin S P 3 i
def uR8 (nl : Nat) (S : Nat → Nat) (P : Nat → Nat → Nat) (z9 : Nat → Nat → Int32) : Prop := ∀ i, i < nl → z9 i 3 = nI (ucnt S P i) ∧ ucnt S P i ≤ 2
def uR9 (S : Nat → Nat) (E : Nat → Nat → Nat) (z14 : Nat → Nat → Int32) (m19 : Nat → Int32) : Prop := ∀ b k j, b < 4 → k < S b → j < 6 → z14 (E b k) j = m19 (6 * (8 * b + k) + j) ∧ (m19 (6 * (8 * b + k) + j) = 0 ∨ m19 (6 * (8 * b + k) + j) = 1 ∨ m19 (6 * (8 * b + k) + j) = 2)
def uR10 (C : Nat → Nat) (z10 z11 : Nat → Nat → Int32) (m17 m18 : Nat → Int32) : Prop := ∀ b, b < 4 → C b ≤ 24 ∧ m17 b = nI (C b) ∧ z10 b 3 = nI (C b) ∧ ∀ j, j < 24 → z11 b j = m18 (24 * b + j) ∧ ∃ v, v < 12 ∧ m18 (24 * b + j) = nI v
def uR11 (z10 : Nat → Nat → Int32) (m21 m22 m23 m24 m25 : Nat → Int32) : Prop := ∀ b, b < 4 → z10 b 4 = m21 b ∧ z10 b 6 = m24 b ∧ (m22 b = 0 ∧ z10 b 5 = -1 ∧ m25 b = 0 ∨ m22 b = 1 ∧ z10 b 5 = m23 b ∧ ∃ h, h < 1000 ∧ m23 b = nI h)
def umk (m : Nat → Int32) (b j : Nat) : Nat := if m (5 * b + j) = -1 then 0 else 1
def uR12 (z12 : Nat → Nat → Int32) (m25 m26 : Nat → Int32) : Prop := ∀ b, b < 4 → (∀ j, j < 5 → z12 b j = m26 (5 * b + j) ∧ (m26 (5 * b + j) = -1 ∨ ∃ v, v ≤ 100 ∧ m26 (5 * b + j) = nI v)) ∧ m25 b = nI (umk m26 b 0 + umk m26 b 1 + umk m26 b 2 + umk m26 b 3 + umk m26 b 4)
def uRR (n : Nat) (Z : CZ) (M : MT) (S C : Nat → Nat) (E P : Nat → Nat → Nat) : Prop :=
  uR1 (Z.1 0 0) (M 1 0) (M 2 0) ∧ uR2 n (Z.2.2 0) (Z.1 5) (Z.1 6) (Z.1 7) (Z.1 8) (M 3 0) (M 4) (M 5) (M 6) ∧ uR3 (Z.2.2 0) (Z.2.2 1) (Z.1 3) (Z.2.1 4) Z.2.2 ∧ uR4 S E (Z.1 3) (Z.2.1 4) Z.2.2 ∧ uR5 (Z.2.2 1) (Z.1 9) (M 10 0) (M 11) (M 13) (M 14) ∧ uR6 (Z.2.2 0) (Z.2.2 1) (Z.2.1 9) (Z.1 5) (M 12) ∧ uR7 (Z.2.2 1) (Z.2.2 2) S E P (Z.2.1 13) (M 15) (M 16) ∧ uR8 (Z.2.2 1) S P (Z.1 9) ∧ uR9 S E (Z.1 14) (M 19) ∧ uR10 C (Z.1 10) (Z.1 11) (M 17) (M 18) ∧ uR11 (Z.1 10) (M 21) (M 22) (M 23) (M 24) (M 25) ∧ uR12 (Z.1 12) (M 25) (M 26)
def uR (n : Nat) (Z : CZ) (M : MT) : Prop := ∃ (S C : Nat → Nat) (E P : Nat → Nat → Nat), uRR n Z M S C E P
theorem uR2.up {n np : Nat} {z5 z6 z7 z8 : Nat → Nat → Int32} {m3 : Int32} {m4 m5 m6 : Nat → Int32} (h : uR2 n np z5 z6 z7 z8 m3 m4 m5 m6) : uR2 (n + 1) np z5 z6 z7 z8 m3 m4 m5 m6 := by
  obtain ⟨h1, h2, h3, h4, h5⟩ := h
  refine ⟨h1, h2, h3, fun i f hi hf => ?_, h5⟩
  obtain ⟨g1, g2, g3, g4, g5⟩ := h4 i f hi hf
  exact ⟨g1, g2, g3, ⟨by omega, by omega⟩, g5⟩
theorem uRR.up {n : Nat} {Z : CZ} {M : MT} {S C : Nat → Nat} {E P : Nat → Nat → Nat} (h : uRR n Z M S C E P) : uRR (n + 1) Z M S C E P := by
  obtain ⟨r1, r2, r⟩ := h
  exact ⟨r1, r2.up, r⟩
theorem uR.up {n : Nat} {Z : CZ} {M : MT} (h : uR n Z M) : uR (n + 1) Z M := by
  obtain ⟨S, C, E, P, h⟩ := h
  exact ⟨S, C, E, P, h.up⟩
theorem uR.intro {n : Nat} {Z : CZ} {M : MT} (S C : Nat → Nat) (E P : Nat → Nat → Nat) (h : uRR n Z M S C E P) : uR (n + 1) Z M := ⟨S, C, E, P, h.up⟩
/-- rows of the model that nothing speaks of -/
theorem uRR.thr {n : Nat} {Z : CZ} {M : MT} {S C : Nat → Nat} {E P : Nat → Nat → Nat} (h : uRR n Z M S C E P) (g : Nat → Int32) : uRR n Z (va_up M 0 g) S C E P := h
theorem uR.thr {n : Nat} {Z : CZ} {M : MT} (h : uR n Z M) (g : Nat → Int32) : uR (n + 1) Z (va_up M 0 g) := by
  obtain ⟨S, C, E, P, h⟩ := h
  exact ⟨S, C, E, P, (h.thr g).up⟩
theorem uRR.scr {n : Nat} {Z : CZ} {M M' : MT} {S C : Nat → Nat} {E P : Nat → Nat → Nat} (h : uRR n Z M S C E P) (hM : ∀ k, k ≠ 0 → k ≠ 7 → k ≠ 8 → k ≠ 9 → k ≠ 20 → k ≠ 27 → k ≠ 28 → M' k = M k) : uRR n Z M' S C E P := by
  unfold uRR
  rw [hM 1 (by omega) (by omega) (by omega) (by omega) (by omega) (by omega) (by omega), hM 2 (by omega) (by omega) (by omega) (by omega) (by omega) (by omega) (by omega), hM 3 (by omega) (by omega) (by omega) (by omega) (by omega) (by omega) (by omega), hM 4 (by omega) (by omega) (by omega) (by omega) (by omega) (by omega) (by omega), hM 5 (by omega) (by omega) (by omega) (by omega) (by omega) (by omega) (by omega), hM 6 (by omega) (by omega) (by omega) (by omega) (by omega) (by omega) (by omega), hM 10 (by omega) (by omega) (by omega) (by omega) (by omega) (by omega) (by omega), hM 11 (by omega) (by omega) (by omega) (by omega) (by omega) (by omega) (by omega), hM 12 (by omega) (by omega) (by omega) (by omega) (by omega) (by omega) (by omega), hM 13 (by omega) (by omega) (by omega) (by omega) (by omega) (by omega) (by omega), hM 14 (by omega) (by omega) (by omega) (by omega) (by omega) (by omega) (by omega), hM 15 (by omega) (by omega) (by omega) (by omega) (by omega) (by omega) (by omega), hM 16 (by omega) (by omega) (by omega) (by omega) (by omega) (by omega) (by omega), hM 17 (by omega) (by omega) (by omega) (by omega) (by omega) (by omega) (by omega), hM 18 (by omega) (by omega) (by omega) (by omega) (by omega) (by omega) (by omega), hM 19 (by omega) (by omega) (by omega) (by omega) (by omega) (by omega) (by omega), hM 21 (by omega) (by omega) (by omega) (by omega) (by omega) (by omega) (by omega), hM 22 (by omega) (by omega) (by omega) (by omega) (by omega) (by omega) (by omega), hM 23 (by omega) (by omega) (by omega) (by omega) (by omega) (by omega) (by omega), hM 24 (by omega) (by omega) (by omega) (by omega) (by omega) (by omega) (by omega), hM 25 (by omega) (by omega) (by omega) (by omega) (by omega) (by omega) (by omega), hM 26 (by omega) (by omega) (by omega) (by omega) (by omega) (by omega) (by omega)]
  exact h
/-! what is there -/
section URA
variable {n : Nat} {Z : CZ} {M : MT} {S C : Nat → Nat} {E P : Nat → Nat → Nat}
theorem uRR.ls0 (h : uRR n Z M S C E P) : uLs Z 0 (Z.2.2 0) id := h.2.2.1.1
theorem uRR.ls1 (h : uRR n Z M S C E P) : uLs Z 1 (Z.2.2 1) id := h.2.2.1.2.1
theorem uRR.ls2 (h : uRR n Z M S C E P) : uLs Z 2 4 id := h.2.2.1.2.2.1
theorem uRR.ls3 (h : uRR n Z M S C E P) : uLs Z 3 3 (fun t => 6 + t) := h.2.2.1.2.2.2
theorem uRR.ls4 (h : uRR n Z M S C E P) {b : Nat} (hb : b < 4) : uLs Z (b + 4) (S b) (E b) := h.2.2.2.1 b hb
theorem uRR.np (h : uRR n Z M S C E P) : Z.2.2 0 ≤ 6 ∧ M 3 0 = nI (Z.2.2 0) := ⟨h.2.1.1, h.2.1.2.1⟩
theorem uRR.nl (h : uRR n Z M S C E P) : Z.2.2 1 ≤ 16 ∧ M 10 0 = nI (Z.2.2 1) := ⟨h.2.2.2.2.1.1, h.2.2.2.2.1.2.1⟩
theorem uRR.nS (h : uRR n Z M S C E P) {b : Nat} (hb : b < 4) : S b ≤ 8 ∧ M 15 b = nI (S b) := h.2.2.2.2.2.2.1.1 b hb
theorem uRR.nC (h : uRR n Z M S C E P) {b : Nat} (hb : b < 4) : C b ≤ 24 ∧ M 17 b = nI (C b) ∧ Z.1 10 b 3 = nI (C b) := ⟨(h.2.2.2.2.2.2.2.2.2.1 b hb).1, (h.2.2.2.2.2.2.2.2.2.1 b hb).2.1, (h.2.2.2.2.2.2.2.2.2.1 b hb).2.2.1⟩
theorem cLv5 {cn : Nat → Nat} {i : Nat} (h : i < cn 0) : cLv cn 5 i = true := by
  show (decide (i < cn 0) || (decide (6 ≤ i) && decide (i < 9))) = true
  rw [decide_eq_true h]
  rfl
theorem cLv5t {cn : Nat → Nat} {i : Nat} (h : 6 ≤ i) (h2 : i < 9) : cLv cn 5 i = true := by
  show (decide (i < cn 0) || (decide (6 ≤ i) && decide (i < 9))) = true
  rw [decide_eq_true h, decide_eq_true h2]
  exact Bool.or_true _
theorem cLv9 {cn : Nat → Nat} {i : Nat} (h : i < cn 1) : cLv cn 9 i = true := decide_eq_true h
theorem cLv10 {cn : Nat → Nat} {i : Nat} (h : i < 4) : cLv cn 10 i = true := decide_eq_true h
theorem cLv13 {cn : Nat → Nat} {i : Nat} (h : i < cn 2) : cLv cn 13 i = true := decide_eq_true h
/-! the class's lookups -/
theorem uRR.panAt (h : uRR n Z M S C E P) {k : Nat} (hk : k < Z.2.2 0) : fX6_panAt (nI k) Z = some (.inl k) := by
  have := h.np.1
  unfold fX6_panAt
  rw [h.ls0.size (by omega), cl1_s, c_ri_t hk (by omega), cx1_l, h.ls0.get (by omega) hk, cl1_s, id, cLv5 hk, gdt]
theorem uRR.panAtF (h : uRR n Z M S C E P) {a : Int32} (ha : a < 0 ∨ nI (Z.2.2 0) ≤ a) : fX6_panAt a Z = some (.inr 1) := by
  unfold fX6_panAt
  rw [h.ls0.size (by omega), cl1_s, c_ri_f ha, cx1_r]
theorem uRR.playerAt (h : uRR n Z M S C E P) {k : Nat} (hk : k < Z.2.2 1) : fX6_playerAt (nI k) Z = some (.inl k) := by
  have := h.nl.1
  unfold fX6_playerAt
  rw [h.ls1.size (by omega), cl1_s, c_ri_t hk (by omega), cx1_l, h.ls1.get (by omega) hk, cl1_s, id, cLv9 hk, gdt]
theorem uRR.playerAtF (h : uRR n Z M S C E P) {a : Int32} (ha : a < 0 ∨ nI (Z.2.2 1) ≤ a) : fX6_playerAt a Z = some (.inr 1) := by
  unfold fX6_playerAt
  rw [h.ls1.size (by omega), cl1_s, c_ri_f ha, cx1_r]
theorem c_bandAt (h : uLs Z 2 4 id) {k : Nat} (hk : k < 4) : fX6_bandAt (nI k) Z = some (.inl k) := by
  unfold fX6_bandAt
  rw [h.size (by omega), cl1_s, c_ri_t hk (by omega), cx1_l, h.get (by omega) hk, cl1_s, id, cLv10 hk, gdt]
theorem uRR.bandAt (h : uRR n Z M S C E P) {k : Nat} (hk : k < 4) : fX6_bandAt (nI k) Z = some (.inl k) := c_bandAt h.ls2 hk
theorem uRR.bandAtF (h : uRR n Z M S C E P) {a : Int32} (ha : a < 0 ∨ nI 4 ≤ a) : fX6_bandAt a Z = some (.inr 1) := by
  unfold fX6_bandAt
  rw [h.ls2.size (by omega), cl1_s, c_ri_f ha, cx1_r]
theorem uRR.seatAt (h : uRR n Z M S C E P) {b k : Nat} (hb : b < 4) (hk : k < S b) : fX6_seatAt b (nI k) Z = some (.inl (E b k)) := by
  have := (h.nS hb).1
  have he := (h.2.2.2.2.2.2.1.2.1 b k hb hk).1
  unfold fX6_seatAt
  rw [cLv10 hb, gdt, cLv3 (show b + 4 < 8 by omega), gdt, (h.ls4 hb).size (by omega), cl1_s, c_ri_t hk (by omega), cx1_l]
  try rw [gdt]
  rw [(h.ls4 hb).get (by omega) hk, cl1_s, cLv13 he, gdt]
theorem uRR.seatAtF (h : uRR n Z M S C E P) {b : Nat} {a : Int32} (hb : b < 4) (ha : a < 0 ∨ nI (S b) ≤ a) : fX6_seatAt b a Z = some (.inr 1) := by
  unfold fX6_seatAt
  rw [cLv10 hb, gdt, cLv3 (show b + 4 < 8 by omega), gdt, (h.ls4 hb).size (by omega), cl1_s, c_ri_f ha, cx1_r]
theorem uRR.phc (h : uRR n Z M S C E P) {b : Nat} (hb : b < 4) : fX0_phraseCount b Z = some (nI (C b / 4)) := by
  have := (h.nC hb).1
  unfold fX0_phraseCount
  rw [cLv10 hb, gdt, (h.nC hb).2.2, u_d4 (by omega)]
theorem uRR.phr (h : uRR n Z M S C E P) {b k : Nat} (hb : b < 4) (hk : k < C b / 4) : fX6_requirePhrase b (nI k) Z = some (.inl ()) := by
  have := (h.nC hb).1
  unfold fX6_requirePhrase
  rw [cLv10 hb, gdt, h.phc hb, cl1_s, c_ri_t hk (by omega), cx1_l]
theorem uRR.phrF (h : uRR n Z M S C E P) {b : Nat} {a : Int32} (hb : b < 4) (ha : a < 0 ∨ nI (C b / 4) ≤ a) : fX6_requirePhrase b a Z = some (.inr 1) := by
  unfold fX6_requirePhrase
  rw [cLv10 hb, gdt, h.phc hb, cl1_s, c_ri_f ha, cx1_r]
/-! the model's lookups -/
theorem uRR.isPan (h : uRR n Z M S C E P) {k : Nat} (hk : k < Z.2.2 0) : fX7_isPan (nI k) M = some 1 := by
  have := h.np.1
  unfold fX7_isPan
  rw [h.np.2, m_in_t hk (by omega)]
  rfl
theorem uRR.isPanF (h : uRR n Z M S C E P) {a : Int32} (ha : a < 0 ∨ nI (Z.2.2 0) ≤ a) : fX7_isPan a M = some 0 := by
  have := h.np.1
  unfold fX7_isPan
  rw [h.np.2, m_in_f ha (by omega)]
  rfl
theorem uRR.isPlayer (h : uRR n Z M S C E P) {k : Nat} (hk : k < Z.2.2 1) : fX7_isPlayer (nI k) M = some 1 := by
  have := h.nl.1
  unfold fX7_isPlayer
  rw [h.nl.2, m_in_t hk (by omega)]
  rfl
theorem uRR.isPlayerF (h : uRR n Z M S C E P) {a : Int32} (ha : a < 0 ∨ nI (Z.2.2 1) ≤ a) : fX7_isPlayer a M = some 0 := by
  have := h.nl.1
  unfold fX7_isPlayer
  rw [h.nl.2, m_in_f ha (by omega)]
  rfl
theorem m_isBand {k : Nat} (hk : k < 4) : fX7_isBand (nI k) = some 1 := by
  unfold fX7_isBand
  rw [m_inL_t 4 (by decide) hk (by omega)]
  rfl
theorem m_isBandF {a : Int32} (ha : a < 0 ∨ nI 4 ≤ a) : fX7_isBand a = some 0 := by
  unfold fX7_isBand
  rw [m_inL_f 4 (by decide) ha (by omega)]
  rfl
theorem uRR.isField (h : uRR n Z M S C E P) {k f : Nat} (hk : k < Z.2.2 0) (hf : f < 4) : fX7_isField (nI k) (nI f) M = some 1 := by
  unfold fX7_isField
  rw [h.isPan hk, cl1_s, if_neg (by decide), m_inL_t 4 (by decide) hf (by omega), cl1_s, if_neg (by decide)]
  rfl
theorem uRR.isFieldF (h : uRR n Z M S C E P) {a f : Int32} (ha : a < 0 ∨ nI (Z.2.2 0) ≤ a) : fX7_isField a f M = some 0 := by
  unfold fX7_isField
  rw [h.isPanF ha, cl1_s, if_pos rfl]
  rfl
theorem uRR.isFieldG (h : uRR n Z M S C E P) {k : Nat} {f : Int32} (hk : k < Z.2.2 0) (hf : f < 0 ∨ nI 4 ≤ f) : fX7_isField (nI k) f M = some 0 := by
  unfold fX7_isField
  rw [h.isPan hk, cl1_s, if_neg (by decide), m_inL_f 4 (by decide) hf (by omega), cl1_s, if_pos rfl]
  rfl
theorem uRR.isSeat (h : uRR n Z M S C E P) {b k : Nat} (hb : b < 4) (hk : k < S b) : fX7_isSeat (nI b) (nI k) M = some 1 := by
  have := (h.nS hb).1
  unfold fX7_isSeat
  rw [m_isBand hb, cl1_s, if_neg (by decide), gdn hb (by omega), nIc (by omega), (h.nS hb).2, m_in_t hk (by omega), cl1_s, if_neg (by decide)]
  rfl
theorem uRR.isSeatF (h : uRR n Z M S C E P) {b : Nat} {a : Int32} (hb : b < 4) (ha : a < 0 ∨ nI (S b) ≤ a) : fX7_isSeat (nI b) a M = some 0 := by
  have := (h.nS hb).1
  unfold fX7_isSeat
  rw [m_isBand hb, cl1_s, if_neg (by decide), gdn hb (by omega), nIc (by omega), (h.nS hb).2, m_in_f ha (by omega), cl1_s, if_pos rfl]
  rfl
theorem m_isSeatF {b a : Int32} (hb : b < 0 ∨ nI 4 ≤ b) (M : MT) : fX7_isSeat b a M = some 0 := by
  unfold fX7_isSeat
  rw [m_isBandF hb, cl1_s, if_pos rfl]
  rfl
theorem uRR.isPhrase (h : uRR n Z M S C E P) {b k : Nat} (hb : b < 4) (hk : k < C b / 4) : fX7_isPhrase (nI b) (nI k) M = some 1 := by
  have := (h.nC hb).1
  unfold fX7_isPhrase
  rw [m_isBand hb, cl1_s, if_neg (by decide), gdn hb (by omega), nIc (by omega), (h.nC hb).2.1, u_d4 (by omega), m_in_t hk (by omega), cl1_s, if_neg (by decide)]
  rfl
theorem uRR.isPhraseF (h : uRR n Z M S C E P) {b : Nat} {a : Int32} (hb : b < 4) (ha : a < 0 ∨ nI (C b / 4) ≤ a) : fX7_isPhrase (nI b) a M = some 0 := by
  have := (h.nC hb).1
  unfold fX7_isPhrase
  rw [m_isBand hb, cl1_s, if_neg (by decide), gdn hb (by omega), nIc (by omega), (h.nC hb).2.1, u_d4 (by omega), m_in_f ha (by omega), cl1_s, if_pos rfl]
  rfl
theorem m_isPhraseF {b a : Int32} (hb : b < 0 ∨ nI 4 ≤ b) (M : MT) : fX7_isPhrase b a M = some 0 := by
  unfold fX7_isPhrase
  rw [m_isBandF hb, cl1_s, if_pos rfl]
  rfl
end URA
