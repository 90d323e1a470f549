/-! PURE PART. What holds between the class's state and the model's after n calls. S b seats and C b notes has the band b; E b k is the number of the seat k of b (in the order of making), P b k its player. -/
def oi (o : Option Nat) : Int32 := op2 o (-1) nI
def uR1 (z : Nat → Int32) (m1 m2 : Int32) : Prop := z 5 = m2 ∧ z 6 = m1 ∧ (∃ h, h ≤ 15 ∧ m2 = nI h) ∧ ∃ t, t ≤ 1000 ∧ m1 = nI t
def uR2 (n np : Nat) (z5 z6 z7 z8 : Nat → Nat → Int32) (m3 : Int32) (m4 m5 m6 : Nat → Int32) : Prop := np ≤ 6 ∧ m3 = nI np ∧ (∀ i, i < np → z5 i 0 = nI i) ∧ (∀ i f, i < np → f < 4 → z6 i f = m4 (4 * i + f) ∧ z7 i f = m5 (4 * i + f) ∧ z8 i f = m6 (4 * i + f) ∧ (-(60 + 24 * (n : Int)) ≤ (m4 (4 * i + f)).toInt ∧ (m4 (4 * i + f)).toInt ≤ 60 + 24 * (n : Int)) ∧ (∃ c, c ≤ 7 ∧ m5 (4 * i + f) = nI c) ∧ (m6 (4 * i + f) = 0 ∨ m6 (4 * i + f) = 1)) ∧ ∀ j, 4 * np ≤ j → j < 24 → m5 j = 0 ∧ m6 j = 0
def uR3 (np nl : Nat) (z3 : Nat → Nat → Int32) (q4 : Nat → Nat → Option Nat) (cp : Nat → Nat) : Prop := uL (z3 0) (q4 0) (cp 10) np id ∧ uL (z3 1) (q4 1) (cp 11) nl id ∧ uL (z3 2) (q4 2) (cp 12) 4 id ∧ uL (z3 3) (q4 3) (cp 13) 3 (fun t => 6 + t)
def uR4 (S : Nat → Nat) (E : Nat → Nat → Nat) (z3 : Nat → Nat → Int32) (q4 : Nat → Nat → Option Nat) (cp : Nat → Nat) : Prop := ∀ b, b < 4 → uL (z3 (b + 4)) (q4 (b + 4)) (cp (10 + (b + 4))) (S b) (E b)
def uR5 (nl : Nat) (z9 : Nat → Nat → Int32) (m10 : Int32) (m11 m13 m14 : Nat → Int32) : Prop := nl ≤ 16 ∧ m10 = nI nl ∧ ∀ i, i < nl → z9 i 0 = nI i ∧ z9 i 1 = m11 i ∧ (m11 i = 0 ∨ m11 i = 1) ∧ z9 i 4 = m13 i ∧ (m13 i ≠ -1 → z9 i 5 = m14 i / 30)
def uR6 (np nl : Nat) (q9 : Nat → Nat → Option Nat) (z5 : Nat → Nat → Int32) (m12 : Nat → Int32) : Prop := (∀ i, i < nl → m12 i = oi (q9 i 2) ∧ ∀ q, q9 i 2 = some q → q < np) ∧ (∀ i i' q, i < nl → i' < nl → q9 i 2 = some q → q9 i' 2 = some q → i = i') ∧ ∀ q, q < np → (z5 q 4 = 1 ∧ ∃ i, i < nl ∧ q9 i 2 = some q) ∨ (z5 q 4 = 0 ∧ ∀ i, i < nl → q9 i 2 ≠ some q)
def uR7 (nl ns : Nat) (S : Nat → Nat) (E P : Nat → Nat → Nat) (q13 : Nat → Nat → Option Nat) (m15 m16 : Nat → Int32) : Prop := (∀ b, b < 4 → S b ≤ 8 ∧ m15 b = nI (S b)) ∧ (∀ b k, b < 4 → k < S b → E b k < ns ∧ P b k < nl ∧ q13 (E b k) 0 = some (P b k) ∧ m16 (8 * b + k) = nI (P b k)) ∧ (∀ b k k', b < 4 → k < S b → k' < S b → P b k = P b k' → k = k') ∧ (∀ b k b' k', b < 4 → k < S b → b' < 4 → k' < S b' → E b k = E b' k' → b = b' ∧ k = k') ∧ ∀ j p, j < ns → q13 j 0 = some p → p < nl
def uin (S : Nat → Nat) (P : Nat → Nat → Nat) (b i : Nat) : Nat := if (List.range (S b)).any (fun k => P b k == i) = true then 1 else 0
def ucnt (S : Nat → Nat) (P : Nat → Nat → Nat) (i : Nat) : Nat := uin S P 0 i + uin S P 1 i + uin S P 2 i + uin S P 3 i
def uR8 (nl : Nat) (S : Nat → Nat) (P : Nat → Nat → Nat) (z9 : Nat → Nat → Int32) : Prop := ∀ i, i < nl → z9 i 3 = nI (ucnt S P i) ∧ ucnt S P i ≤ 2
def uR9 (S : Nat → Nat) (E : Nat → Nat → Nat) (z14 : Nat → Nat → Int32) (m19 : Nat → Int32) : Prop := ∀ b k j, b < 4 → k < S b → j < 6 → z14 (E b k) j = m19 (6 * (8 * b + k) + j) ∧ (m19 (6 * (8 * b + k) + j) = 0 ∨ m19 (6 * (8 * b + k) + j) = 1 ∨ m19 (6 * (8 * b + k) + j) = 2)
def uR10 (C : Nat → Nat) (z10 z11 : Nat → Nat → Int32) (m17 m18 : Nat → Int32) : Prop := ∀ b, b < 4 → C b ≤ 24 ∧ m17 b = nI (C b) ∧ z10 b 3 = nI (C b) ∧ ∀ j, j < 24 → z11 b j = m18 (24 * b + j) ∧ ∃ v, v < 12 ∧ m18 (24 * b + j) = nI v
def uR11 (z10 : Nat → Nat → Int32) (m21 m22 m23 m24 m25 : Nat → Int32) : Prop := ∀ b, b < 4 → z10 b 4 = m21 b ∧ z10 b 6 = m24 b ∧ (m22 b = 0 ∧ z10 b 5 = -1 ∧ m25 b = 0 ∨ m22 b = 1 ∧ z10 b 5 = m23 b ∧ ∃ h, h < 1000 ∧ m23 b = nI h)
def umk (m : Nat → Int32) (b j : Nat) : Nat := if m (5 * b + j) = -1 then 0 else 1
def uR12 (z12 : Nat → Nat → Int32) (m25 m26 : Nat → Int32) : Prop := ∀ b, b < 4 → (∀ j, j < 5 → z12 b j = m26 (5 * b + j) ∧ (m26 (5 * b + j) = -1 ∨ ∃ v, v ≤ 100 ∧ m26 (5 * b + j) = nI v)) ∧ m25 b = nI (umk m26 b 0 + umk m26 b 1 + umk m26 b 2 + umk m26 b 3 + umk m26 b 4)
def uRR (n : Nat) (Z : CZ) (M : MT) (S C : Nat → Nat) (E P : Nat → Nat → Nat) : Prop :=
  uR1 (Z.1 0 0) (M 1 0) (M 2 0) ∧ uR2 n (Z.2.2 0) (Z.1 5) (Z.1 6) (Z.1 7) (Z.1 8) (M 3 0) (M 4) (M 5) (M 6) ∧ uR3 (Z.2.2 0) (Z.2.2 1) (Z.1 3) (Z.2.1 4) Z.2.2 ∧ uR4 S E (Z.1 3) (Z.2.1 4) Z.2.2 ∧ uR5 (Z.2.2 1) (Z.1 9) (M 10 0) (M 11) (M 13) (M 14) ∧ uR6 (Z.2.2 0) (Z.2.2 1) (Z.2.1 9) (Z.1 5) (M 12) ∧ uR7 (Z.2.2 1) (Z.2.2 2) S E P (Z.2.1 13) (M 15) (M 16) ∧ uR8 (Z.2.2 1) S P (Z.1 9) ∧ uR9 S E (Z.1 14) (M 19) ∧ uR10 C (Z.1 10) (Z.1 11) (M 17) (M 18) ∧ uR11 (Z.1 10) (M 21) (M 22) (M 23) (M 24) (M 25) ∧ uR12 (Z.1 12) (M 25) (M 26)
def uR (n : Nat) (Z : CZ) (M : MT) : Prop := ∃ (S C : Nat → Nat) (E P : Nat → Nat → Nat), uRR n Z M S C E P
theorem uR2.up {n np : Nat} {z5 z6 z7 z8 : Nat → Nat → Int32} {m3 : Int32} {m4 m5 m6 : Nat → Int32} (h : uR2 n np z5 z6 z7 z8 m3 m4 m5 m6) : uR2 (n + 1) np z5 z6 z7 z8 m3 m4 m5 m6 := by
  obtain ⟨h1, h2, h3, h4, h5⟩ := h
  refine ⟨h1, h2, h3, fun i f hi hf => ?_, h5⟩
  obtain ⟨g1, g2, g3, g4, g5⟩ := h4 i f hi hf
  exact ⟨g1, g2, g3, ⟨by omega, by omega⟩, g5⟩
theorem uRR.up {n : Nat} {Z : CZ} {M : MT} {S C : Nat → Nat} {E P : Nat → Nat → Nat} (h : uRR n Z M S C E P) : uRR (n + 1) Z M S C E P := by
  obtain ⟨r1, r2, r⟩ := h
  exact ⟨r1, r2.up, r⟩
theorem uR.up {n : Nat} {Z : CZ} {M : MT} (h : uR n Z M) : uR (n + 1) Z M := by
  obtain ⟨S, C, E, P, h⟩ := h
  exact ⟨S, C, E, P, h.up⟩
theorem uR.intro {n : Nat} {Z : CZ} {M : MT} (S C : Nat → Nat) (E P : Nat → Nat → Nat) (h : uRR n Z M S C E P) : uR (n + 1) Z M := ⟨S, C, E, P, h.up⟩
/-- rows of the model that nothing speaks of -/
theorem uRR.thr {n : Nat} {Z : CZ} {M : MT} {S C : Nat → Nat} {E P : Nat → Nat → Nat} (h : uRR n Z M S C E P) (g : Nat → Int32) : uRR n Z (va_up M 0 g) S C E P := h
theorem uR.thr {n : Nat} {Z : CZ} {M : MT} (h : uR n Z M) (g : Nat → Int32) : uR (n + 1) Z (va_up M 0 g) := by
  obtain ⟨S, C, E, P, h⟩ := h
  exact ⟨S, C, E, P, (h.thr g).up⟩
theorem uRR.scr {n : Nat} {Z : CZ} {M M' : MT} {S C : Nat → Nat} {E P : Nat → Nat → Nat} (h : uRR n Z M S C E P) (hM : ∀ k, k ≠ 0 → k ≠ 7 → k ≠ 8 → k ≠ 9 → k ≠ 20 → k ≠ 27 → k ≠ 28 → M' k = M k) : uRR n Z M' S C E P := by
  unfold uRR
  rw [hM 1 (by omega) (by omega) (by omega) (by omega) (by omega) (by omega) (by omega), hM 2 (by omega) (by omega) (by omega) (by omega) (by omega) (by omega) (by omega), hM 3 (by omega) (by omega) (by omega) (by omega) (by omega) (by omega) (by omega), hM 4 (by omega) (by omega) (by omega) (by omega) (by omega) (by omega) (by omega), hM 5 (by omega) (by omega) (by omega) (by omega) (by omega) (by omega) (by omega), hM 6 (by omega) (by omega) (by omega) (by omega) (by omega) (by omega) (by omega), hM 10 (by omega) (by omega) (by omega) (by omega) (by omega) (by omega) (by omega), hM 11 (by omega) (by omega) (by omega) (by omega) (by omega) (by omega) (by omega), hM 12 (by omega) (by omega) (by omega) (by omega) (by omega) (by omega) (by omega), hM 13 (by omega) (by omega) (by omega) (by omega) (by omega) (by omega) (by omega), hM 14 (by omega) (by omega) (by omega) (by omega) (by omega) (by omega) (by omega), hM 15 (by omega) (by omega) (by omega) (by omega) (by omega) (by omega) (by omega), hM 16 (by omega) (by omega) (by omega) (by omega) (by omega) (by omega) (by omega), hM 17 (by omega) (by omega) (by omega) (by omega) (by omega) (by omega) (by omega), hM 18 (by omega) (by omega) (by omega) (by omega) (by omega) (by omega) (by omega), hM 19 (by omega) (by omega) (by omega) (by omega) (by omega) (by omega) (by omega), hM 21 (by omega) (by omega) (by omega) (by omega) (by omega) (by omega) (by omega), hM 22 (by omega) (by omega) (by omega) (by omega) (by omega) (by omega) (by omega), hM 23 (by omega) (by omega) (by omega) (by omega) (by omega) (by omega) (by omega), hM 24 (by omega) (by omega) (by omega) (by omega) (by omega) (by omega) (by omega), hM 25 (by omega) (by omega) (by omega) (by omega) (by omega) (by omega) (by omega), hM 26 (by omega) (by omega) (by omega) (by omega) (by omega) (by omega) (by omega)]
  exact h
/-! what is there -/
section URA
variable {n : Nat} {Z : CZ} {M : MT} {S C : Nat → Nat} {E P : Nat → Nat → Nat}
theorem uRR.ls0 (h : uRR n Z M S C E P) : uLs Z 0 (Z.2.2 0) id := h.2.2.1.1
theorem uRR.ls1 (h : uRR n Z M S C E P) : uLs Z 1 (Z.2.2 1) id := h.2.2.1.2.1
theorem uRR.ls2 (h : uRR n Z M S C E P) : uLs Z 2 4 id := h.2.2.1.2.2.1
theorem uRR.ls3 (h : uRR n Z M S C E P) : uLs Z 3 3 (fun t => 6 + t) := h.2.2.1.2.2.2
theorem uRR.ls4 (h : uRR n Z M S C E P) {b : Nat} (hb : b < 4) : uLs Z (b + 4) (S b) (E b) := h.2.2.2.1 b hb
theorem uRR.np (h : uRR n Z M S C E P) : Z.2.2 0 ≤ 6 ∧ M 3 0 = nI (Z.2.2 0) := ⟨h.2.1.1, h.2.1.2.1⟩
theorem uRR.nl (h : uRR n Z M S C E P) : Z.2.2 1 ≤ 16 ∧ M 10 0 = nI (Z.2.2 1) := ⟨h.2.2.2.2.1.1, h.2.2.2.2.1.2.1⟩
theorem uRR.nS (h : uRR n Z M S C E P) {b : Nat} (hb : b < 4) : S b ≤ 8 ∧ M 15 b = nI (S b) := h.2.2.2.2.2.2.1.1 b hb
theorem uRR.nC (h : uRR n Z M S C E P) {b : Nat} (hb : b < 4) : C b ≤ 24 ∧ M 17 b = nI (C b) ∧ Z.1 10 b 3 = nI (C b) := ⟨(h.2.2.2.2.2.2.2.2.2.1 b hb).1, (h.2.2.2.2.2.2.2.2.2.1 b hb).2.1, (h.2.2.2.2.2.2.2.2.2.1 b hb).2.2.1⟩
theorem cLv5 {cn : Nat → Nat} {i : Nat} (h : i < cn 0) : cLv cn 5 i = true := by
  show (decide (i < cn 0) || (decide (6 ≤ i) && decide (i < 9))) = true
  rw [decide_eq_true h]
  rfl
theorem cLv5t {cn : Nat → Nat} {i : Nat} (h : 6 ≤ i) (h2 : i < 9) : cLv cn 5 i = true := by
  show (decide (i < cn 0) || (decide (6 ≤ i) && decide (i < 9))) = true
  rw [decide_eq_true h, decide_eq_true h2]
  exact Bool.or_true _
theorem cLv9 {cn : Nat → Nat} {i : Nat} (h : i < cn 1) : cLv cn 9 i = true := decide_eq_true h
theorem cLv10 {cn : Nat → Nat} {i : Nat} (h : i < 4) : cLv cn 10 i = true := decide_eq_true h
theorem cLv13 {cn : Nat → Nat} {i : Nat} (h : i < cn 2) : cLv cn 13 i = true := decide_eq_true h
/-! the class's lookups -/
theorem uRR.panAt (h : uRR n Z M S C E P) {k : Nat} (hk : k < Z.2.2 0) : fX6_panAt (nI k) Z = some (.inl k) := by
  have := h.np.1
  unfold fX6_panAt
  rw [h.ls0.size (by omega), cl1_s, c_ri_t hk (by omega), cx1_l, h.ls0.get (by omega) hk, cl1_s, id, cLv5 hk, gdt]
theorem uRR.panAtF (h : uRR n Z M S C E P) {a : Int32} (ha : a < 0 ∨ nI (Z.2.2 0) ≤ a) : fX6_panAt a Z = some (.inr 1) := by
  unfold fX6_panAt
  rw [h.ls0.size (by omega), cl1_s, c_ri_f ha, cx1_r]
theorem uRR.playerAt (h : uRR n Z M S C E P) {k : Nat} (hk : k < Z.2.2 1) : fX6_playerAt (nI k) Z = some (.inl k) := by
  have := h.nl.1
  unfold fX6_playerAt
  rw [h.ls1.size (by omega), cl1_s, c_ri_t hk (by omega), cx1_l, h.ls1.get (by omega) hk, cl1_s, id, cLv9 hk, gdt]
theorem uRR.playerAtF (h : uRR n Z M S C E P) {a : Int32} (ha : a < 0 ∨ nI (Z.2.2 1) ≤ a) : fX6_playerAt a Z = some (.inr 1) := by
  unfold fX6_playerAt
  rw [h.ls1.size (by omega), cl1_s, c_ri_f ha, cx1_r]
theorem c_bandAt (h : uLs Z 2 4 id) {k : Nat} (hk : k < 4) : fX6_bandAt (nI k) Z = some (.inl k) := by
  unfold fX6_bandAt
  rw [h.size (by omega), cl1_s, c_ri_t hk (by omega), cx1_l, h.get (by omega) hk, cl1_s, id, cLv10 hk, gdt]
theorem uRR.bandAt (h : uRR n Z M S C E P) {k : Nat} (hk : k < 4) : fX6_bandAt (nI k) Z = some (.inl k) := c_bandAt h.ls2 hk
theorem uRR.bandAtF (h : uRR n Z M S C E P) {a : Int32} (ha : a < 0 ∨ nI 4 ≤ a) : fX6_bandAt a Z = some (.inr 1) := by
  unfold fX6_bandAt
  rw [h.ls2.size (by omega), cl1_s, c_ri_f ha, cx1_r]
theorem uRR.seatAt (h : uRR n Z M S C E P) {b k : Nat} (hb : b < 4) (hk : k < S b) : fX6_seatAt b (nI k) Z = some (.inl (E b k)) := by
  have := (h.nS hb).1
  have he := (h.2.2.2.2.2.2.1.2.1 b k hb hk).1
  unfold fX6_seatAt
  rw [cLv10 hb, gdt, cLv3 (show b + 4 < 8 by omega), gdt, (h.ls4 hb).size (by omega), cl1_s, c_ri_t hk (by omega), cx1_l]
  try rw [gdt]
  rw [(h.ls4 hb).get (by omega) hk, cl1_s, cLv13 he, gdt]
theorem uRR.seatAtF (h : uRR n Z M S C E P) {b : Nat} {a : Int32} (hb : b < 4) (ha : a < 0 ∨ nI (S b) ≤ a) : fX6_seatAt b a Z = some (.inr 1) := by
  unfold fX6_seatAt
  rw [cLv10 hb, gdt, cLv3 (show b + 4 < 8 by omega), gdt, (h.ls4 hb).size (by omega), cl1_s, c_ri_f ha, cx1_r]
theorem uRR.phc (h : uRR n Z M S C E P) {b : Nat} (hb : b < 4) : fX0_phraseCount b Z = some (nI (C b / 4)) := by
  have := (h.nC hb).1
  unfold fX0_phraseCount
  rw [cLv10 hb, gdt, (h.nC hb).2.2, u_d4 (by omega)]
theorem uRR.phr (h : uRR n Z M S C E P) {b k : Nat} (hb : b < 4) (hk : k < C b / 4) : fX6_requirePhrase b (nI k) Z = some (.inl ()) := by
  have := (h.nC hb).1
  unfold fX6_requirePhrase
  rw [cLv10 hb, gdt, h.phc hb, cl1_s, c_ri_t hk (by omega), cx1_l]
theorem uRR.phrF (h : uRR n Z M S C E P) {b : Nat} {a : Int32} (hb : b < 4) (ha : a < 0 ∨ nI (C b / 4) ≤ a) : fX6_requirePhrase b a Z = some (.inr 1) := by
  unfold fX6_requirePhrase
  rw [cLv10 hb, gdt, h.phc hb, cl1_s, c_ri_f ha, cx1_r]
/-! the model's lookups -/
end URA

/-! PURE PART. The calls that only read, and those that write a place or two. -/
section URE
variable {n : Nat} {Z : CZ} {M : MT} {S C : Nat → Nat} {E P : Nat → Nat → Nat}
theorem uR9.set {z14 z' : Nat → Nat → Int32} {m19 m' : Nat → Int32} (h : uR9 S E z14 m19) (hi : ∀ b k b' k', b < 4 → k < S b → b' < 4 → k' < S b' → E b k = E b' k' → b = b' ∧ k = k') (h8 : ∀ b, b < 4 → S b ≤ 8) {b k j : Nat} (hb : b < 4) (hk : k < S b) (hj : j < 6) {v : Int32} (hv : v = 0 ∨ v = 1 ∨ v = 2) (z1 : z' (E b k) j = v) (z2 : ∀ e f, ¬ (e = E b k ∧ f = j) → z' e f = z14 e f) (m1 : m' (6 * (8 * b + k) + j) = v) (m2 : ∀ i, i ≠ 6 * (8 * b + k) + j → m' i = m19 i) : uR9 S E z' m' := by
  intro b' k' j' hb' hk' hj'
  have g := h8 b hb
  have g' := h8 b' hb'
  by_cases hs : b' = b ∧ k' = k ∧ j' = j
  · obtain ⟨rfl, rfl, rfl⟩ := hs
    rw [z1, m1]
    exact ⟨rfl, hv⟩
  · rw [z2 _ _ (fun q => hs (by
      obtain ⟨q1, q2⟩ := hi _ _ _ _ hb' hk' hb hk q.1
      exact ⟨q1, q2, q.2⟩)), m2 _ (by omega)]
    exact h b' k' j' hb' hk' hj'
theorem uRR.h8 (h : uRR n Z M S C E P) : ∀ b, b < 4 → S b ≤ 8 := fun b hb => (h.nS hb).1
theorem uRR.inj (h : uRR n Z M S C E P) : ∀ b k b' k', b < 4 → k < S b → b' < 4 → k' < S b' → E b k = E b' k' → b = b' ∧ k = k' := h.2.2.2.2.2.2.1.2.2.2.1
end URE

/-! PURE PART. note, mark, takeBack, give, ofPlayer. -/
section URM
variable {n : Nat} {Z : CZ} {M : MT} {S C : Nat → Nat} {E P : Nat → Nat → Nat}
/-! marks -/
def ucm (z : Nat → Int32) (j : Nat) : Nat := if z j = -1 then 0 else 1
theorem c_cm_s {b x c : Nat} (hb : b < 4) (hx : x < 5) (fuel : Nat) : lf3 (fX0_countMarks_4 Z) (fuel + 1) b (nI c) (nI x) = lf3 (fX0_countMarks_4 Z) fuel b (nI (c + ucm (Z.1 12 b) x)) (nI (x + 1)) := by
  rw [lf3_s]
  unfold fX0_countMarks_4
  rw [if_neg (show ¬ ((5 : Int32) ≤ nI x) from nI_ge (b := 5) (by omega) (by omega)), cLv10 hb, gdt, gdn hx (by omega), nIc (by omega)]
  unfold ucm
  by_cases h : Z.1 12 b x = -1
  · rw [if_pos h, if_pos h]
    unfold fX0_countMarks_22
    rw [bnd_e, u_a1]
    rfl
  · rw [if_neg h, if_neg h, bnd_e, u_a1]
    unfold fX0_countMarks_22
    rw [bnd_e, u_a1]
theorem c_cm_e {b c : Nat} (fuel : Nat) : lf3 (fX0_countMarks_4 Z) (fuel + 1) b (nI c) (nI 5) = some (nI c) := by
  rw [lf3_s]
  unfold fX0_countMarks_4
  rw [if_pos (by decide)]
  rfl
theorem c_countMarks {b : Nat} (hb : b < 4) : fX0_countMarks b Z = some (nI (ucm (Z.1 12 b) 0 + ucm (Z.1 12 b) 1 + ucm (Z.1 12 b) 2 + ucm (Z.1 12 b) 3 + ucm (Z.1 12 b) 4)) := by
  unfold fX0_countMarks
  show lf3 (fX0_countMarks_4 Z) (94 + 1 + 1 + 1 + 1 + 1 + 1) b (nI 0) (nI 0) = _
  rw [c_cm_s hb (by omega), c_cm_s hb (by omega), c_cm_s hb (by omega), c_cm_s hb (by omega), c_cm_s hb (by omega), c_cm_e, Nat.zero_add]
theorem ucm_umk {m : Nat → Int32} {z : Nat → Int32} {b j : Nat} (h : z j = m (5 * b + j)) : ucm z j = umk m b j := by
  unfold ucm umk
  rw [h]
theorem uRR.cm (h : uRR n Z M S C E P) {b : Nat} (hb : b < 4) : fX0_countMarks b Z = some (M 25 b) := by
  obtain ⟨g1, g2⟩ := h.2.2.2.2.2.2.2.2.2.2.2 b hb
  rw [c_countMarks hb, g2, ucm_umk (g1 0 (by omega)).1, ucm_umk (g1 1 (by omega)).1, ucm_umk (g1 2 (by omega)).1, ucm_umk (g1 3 (by omega)).1, ucm_umk (g1 4 (by omega)).1]
theorem umk_le (m : Nat → Int32) (b j : Nat) : umk m b j ≤ 1 := by
  unfold umk
  split <;> omega
theorem umk_o {m m' : Nat → Int32} {b j : Nat} (h : m' (5 * b + j) = m (5 * b + j)) : umk m' b j = umk m b j := by
  unfold umk
  rw [h]
theorem umk_0 {m : Nat → Int32} {b j : Nat} (h : m (5 * b + j) = -1) : umk m b j = 0 := if_pos h
theorem umk_1 {m : Nat → Int32} {b j : Nat} (h : ¬ m (5 * b + j) = -1) : umk m b j = 1 := if_neg h
theorem umk_set {m : Nat → Int32} {b k v : Nat} (hk : k < 5) (hv : v ≤ 100) (h0 : m (5 * b + k) = -1) : umk (upd m (5 * b + k) (nI v)) b 0 + umk (upd m (5 * b + k) (nI v)) b 1 + umk (upd m (5 * b + k) (nI v)) b 2 + umk (upd m (5 * b + k) (nI v)) b 3 + umk (upd m (5 * b + k) (nI v)) b 4 = umk m b 0 + umk m b 1 + umk m b 2 + umk m b 3 + umk m b 4 + 1 := by
  have hs : umk (upd m (5 * b + k) (nI v)) b k = 1 := umk_1 (by rw [pk_us, nIm1 (by omega)]; exact id)
  have h1 : umk m b k = 0 := umk_0 h0
  have ho : ∀ j, j ≠ k → umk (upd m (5 * b + k) (nI v)) b j = umk m b j := fun j hj => umk_o (pk_un (by omega))
  have hk5 : k = 0 ∨ k = 1 ∨ k = 2 ∨ k = 3 ∨ k = 4 := by omega
  rcases hk5 with rfl | rfl | rfl | rfl | rfl
  · rw [ho 1 (by omega), ho 2 (by omega), ho 3 (by omega), ho 4 (by omega)]
    omega
  · rw [ho 0 (by omega), ho 2 (by omega), ho 3 (by omega), ho 4 (by omega)]
    omega
  · rw [ho 0 (by omega), ho 1 (by omega), ho 3 (by omega), ho 4 (by omega)]
    omega
  · rw [ho 0 (by omega), ho 1 (by omega), ho 2 (by omega), ho 4 (by omega)]
    omega
  · rw [ho 0 (by omega), ho 1 (by omega), ho 2 (by omega), ho 3 (by omega)]
    omega
/-! pans of players -/
theorem oi_n : oi none = -1 := rfl
theorem oi_s (q : Nat) : oi (some q) = nI q := rfl
end URM

/-! PURE PART. Where a player sits; ofPlayer. -/
section URS
variable {n : Nat} {Z : CZ} {M : MT} {S C : Nat → Nat} {E P : Nat → Nat → Nat}
theorem uin_iff {b i : Nat} : (List.range (S b)).any (fun k => P b k == i) = true ↔ ∃ k, k < S b ∧ P b k = i := by
  rw [List.any_eq_true]
  constructor
  · rintro ⟨k, hk, e⟩
    exact ⟨k, List.mem_range.mp hk, beq_iff_eq.mp e⟩
  · rintro ⟨k, hk, e⟩
    exact ⟨k, List.mem_range.mpr hk, beq_iff_eq.mpr e⟩
theorem uin_1 {b i k : Nat} (hk : k < S b) (e : P b k = i) : uin S P b i = 1 := if_pos (uin_iff.mpr ⟨k, hk, e⟩)
theorem uin_0 {b i : Nat} (h : ∀ k, k < S b → P b k ≠ i) : uin S P b i = 0 := if_neg (fun q => by
  obtain ⟨k, hk, e⟩ := uin_iff.mp q
  exact h k hk e)
theorem uin_or (S : Nat → Nat) (P : Nat → Nat → Nat) (b i : Nat) : (uin S P b i = 1 ∧ ∃ k, k < S b ∧ P b k = i) ∨ (uin S P b i = 0 ∧ ∀ k, k < S b → P b k ≠ i) := by
  by_cases h : ∃ k, k < S b ∧ P b k = i
  · obtain ⟨k, hk, e⟩ := h
    exact Or.inl ⟨uin_1 hk e, k, hk, e⟩
  · have h2 : ∀ k, k < S b → P b k ≠ i := fun k hk e => h ⟨k, hk, e⟩
    exact Or.inr ⟨uin_0 h2, h2⟩
theorem uin_le (S : Nat → Nat) (P : Nat → Nat → Nat) (b i : Nat) : uin S P b i ≤ 1 := by
  unfold uin
  split <;> omega
theorem c_seatOf_l (h : uRR n Z M S C E P) {i b : Nat} (hi : i < Z.2.2 1) (hb : b < 4) : ∀ (d x fuel : Nat), x + d = S b → d < fuel → ∃ w : Int32, lf3 (fX0_seatOf_2 Z) fuel b i (nI x) = some w ∧ ((∀ k, x ≤ k → k < S b → P b k ≠ i) → w = -1) ∧ ∀ k0, x ≤ k0 → k0 < S b → P b k0 = i → w = nI k0
  | _, _, 0, _, hf => absurd hf (by omega)
  | 0, x, fuel + 1, hx, _ => by
    have hS := h.nS hb
    refine ⟨-1, ?_, fun _ => rfl, fun k0 h1 h2 _ => by omega⟩
    rw [lf3_s]
    unfold fX0_seatOf_2
    rw [cLv10 hb, gdt, cLv3 (by omega), gdt, (h.ls4 hb).size (by omega), cl1_s, if_pos (nI_le (by omega) (by omega))]
    rfl
  | d + 1, x, fuel + 1, hx, hf => by
    have hS := h.nS hb
    have h7 := h.2.2.2.2.2.2.1
    obtain ⟨p1, p2, p3, p4⟩ := h7.2.1 b x hb (by omega)
    have est : lf3 (fX0_seatOf_2 Z) (fuel + 1) b i (nI x) = if P b x = i then some (nI x) else lf3 (fX0_seatOf_2 Z) fuel b i (nI (x + 1)) := by
      rw [lf3_s]
      unfold fX0_seatOf_2
      rw [cLv10 hb, gdt, cLv3 (by omega), gdt, (h.ls4 hb).size (by omega), cl1_s, if_neg (nI_ge (by omega) (by omega)), (h.ls4 hb).get (by omega) (show x < S b by omega), cl1_s, cLv13 p1, gdt, p3, cl1_s, cLv9 p2, gdt, cLv9 hi, gdt, bnd_e, u_a1]
      rfl
    obtain ⟨w, w1, w2, w3⟩ := c_seatOf_l h hi hb d (x + 1) fuel (by omega) (by omega)
    by_cases hp : P b x = i
    · refine ⟨nI x, by rw [est, if_pos hp], fun hn => absurd hp (hn x (by omega) (by omega)), fun k0 k1 k2 k3 => ?_⟩
      have : k0 = x := h7.2.2.1 b k0 x hb k2 (by omega) (by rw [k3, hp])
      rw [this]
    · refine ⟨w, by rw [est, if_neg hp]; exact w1, fun hn => w2 (fun k g1 g2 => hn k (by omega) g2), fun k0 k1 k2 k3 => w3 k0 (by
          rcases Nat.eq_or_lt_of_le k1 with e | e
          · subst e
            exact absurd k3 hp
          · omega) k2 k3⟩
theorem c_seatOf_t (h : uRR n Z M S C E P) {i b k : Nat} (hi : i < Z.2.2 1) (hb : b < 4) (hk : k < S b) (e : P b k = i) : fX0_seatOf b i Z = some (nI k) := by
  have hS := h.nS hb
  obtain ⟨w, w1, w2, w3⟩ := c_seatOf_l h hi hb (S b) 0 100 (by omega) (by omega)
  rw [w3 k (by omega) hk e] at w1
  exact w1
theorem c_seatOf_f (h : uRR n Z M S C E P) {i b : Nat} (hi : i < Z.2.2 1) (hb : b < 4) (e : ∀ k, k < S b → P b k ≠ i) : fX0_seatOf b i Z = some (-1) := by
  have hS := h.nS hb
  obtain ⟨w, w1, w2, w3⟩ := c_seatOf_l h hi hb (S b) 0 100 (by omega) (by omega)
  rw [w2 (fun k _ hk => e k hk)] at w1
  exact w1
end URS

