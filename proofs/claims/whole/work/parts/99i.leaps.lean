/-! PURE PART. Leaps. -/
def spot (lay n : Nat) : Nat := if lay = 0 then 7 * n % 12 else 4 * (n % 3) + n / 3
def lgap (x y : Nat) : Nat := if y ≤ x then (if 12 - (x - y) < x - y then 12 - (x - y) else x - y) else (if 12 - (y - x) < y - x then 12 - (y - x) else y - x)
def lp (lay a b : Nat) : Nat := lgap (spot lay b) (spot lay a)
theorem spot_lt {lay n : Nat} (hn : n < 12) : spot lay n < 12 := by
  unfold spot
  split <;> omega
theorem lgap_le {x y : Nat} (hx : x < 12) (hy : y < 12) : lgap x y ≤ 6 := by
  unfold lgap
  split
  · split <;> omega
  · split <;> omega
theorem lp_le {lay a b : Nat} (ha : a < 12) (hb : b < 12) : lp lay a b ≤ 6 := lgap_le (spot_lt hb) (spot_lt ha)
theorem lgapC : ∀ x, x < 12 → ∀ y, y < 12 → (if ((12 : Int32) - (if 0 ≤ (nI x - nI y) then (nI x - nI y) else 0 - (nI x - nI y))) < (if 0 ≤ (nI x - nI y) then (nI x - nI y) else 0 - (nI x - nI y)) then ((12 : Int32) - (if 0 ≤ (nI x - nI y) then (nI x - nI y) else 0 - (nI x - nI y))) else (if 0 ≤ (nI x - nI y) then (nI x - nI y) else 0 - (nI x - nI y))) = nI (lgap x y) := by decide +kernel
theorem lgapM : ∀ x, x < 12 → ∀ y, y < 12 → (if nI y ≤ nI x then (if ((12 : Int32) - (nI x - nI y)) ≤ (nI x - nI y) then ((12 : Int32) - (nI x - nI y)) else (nI x - nI y)) else (if ((12 : Int32) - (nI y - nI x)) ≤ (nI y - nI x) then ((12 : Int32) - (nI y - nI x)) else (nI y - nI x))) = nI (lgap x y) := by decide +kernel
theorem c_spot {lay n : Nat} (hl : lay ≤ 1) (hn : n < 12) (Z : CZ) : fX2_spotOf (nI lay) (nI n) Z = some (nI (spot lay n)) := by
  unfold fX2_spotOf spot
  have : lay = 0 ∨ lay = 1 := by omega
  rcases this with rfl | rfl
  · rw [if_pos (show nI 0 = 0 from rfl), if_pos rfl, u_l7, u_e12 (by omega)]
    rfl
  · rw [if_neg (by decide), if_neg (by omega), u_e3 (by omega), u_l4, u_d3 (by omega), nI_add]
    rfl
theorem c_leap {lay a b : Nat} (hl : lay ≤ 1) (ha : a < 12) (hb : b < 12) (Z : CZ) : fX2_leapBetween (nI lay) (nI a) (nI b) Z = some (nI (lp lay a b)) := by
  unfold fX2_leapBetween
  rw [c_spot hl hb, cl1_s, c_spot hl ha, cl1_s, bnd_e, lgapC _ (spot_lt hb) _ (spot_lt ha)]
  rfl
theorem m_lies {lay n : Nat} (hl : lay ≤ 1) (hn : n < 12) : fX7_lies (nI n) (nI lay) = some (nI (spot lay n)) := by
  unfold fX7_lies spot
  have : lay = 0 ∨ lay = 1 := by omega
  rcases this with rfl | rfl
  · rw [if_pos (show nI 0 = 0 from rfl), if_pos rfl, u_l7, u_e12 (by omega)]
    rfl
  · rw [if_neg (by decide), if_neg (by omega), u_e3 (by omega), u_l4, u_d3 (by omega), nI_add]
    rfl
section URL
variable {n : Nat} {Z : CZ} {M : MT} {S C : Nat → Nat} {E P : Nat → Nat → Nat}
def nto (M : MT) (b j : Nat) : Nat := (M 18 (24 * b + j)).toNatClampNeg
def lyo (M : MT) (P : Nat → Nat → Nat) (b k : Nat) : Nat := (M 11 (P b k)).toNatClampNeg
/-- the leap from the place q of the song of b -/
def lpp (M : MT) (b q lay : Nat) : Nat := lp lay (nto M b q) (nto M b (q + 1))
def uins (M : MT) (b p lay : Nat) : Nat := lpp M b (4 * p) lay + lpp M b (4 * p + 1) lay + lpp M b (4 * p + 2) lay
theorem uRR.nt (h : uRR n Z M S C E P) {b j : Nat} (hb : b < 4) (hj : j < 24) : M 18 (24 * b + j) = nI (nto M b j) ∧ Z.1 11 b j = nI (nto M b j) ∧ nto M b j < 12 := by
  obtain ⟨e, v, v1, v2⟩ := (h.2.2.2.2.2.2.2.2.2.1 b hb).2.2.2 j hj
  have ev : nto M b j = v := by
    unfold nto
    rw [v2, nIc (by omega)]
  rw [ev, e, v2]
  exact ⟨rfl, rfl, v1⟩
theorem uRR.ly (h : uRR n Z M S C E P) {b k : Nat} (hb : b < 4) (hk : k < S b) : M 11 (P b k) = nI (lyo M P b k) ∧ Z.1 9 (P b k) 1 = nI (lyo M P b k) ∧ lyo M P b k ≤ 1 := by
  have p2 := (h.2.2.2.2.2.2.1.2.1 b k hb hk).2.1
  obtain ⟨_, e, u, _⟩ := h.2.2.2.2.1.2.2 _ p2
  unfold lyo
  rw [e]
  rcases u with u | u
  · rw [u]
    exact ⟨rfl, rfl, by decide⟩
  · rw [u]
    exact ⟨rfl, rfl, by decide⟩
theorem lpp_le (h : uRR n Z M S C E P) {b q lay : Nat} (hb : b < 4) (hq : q + 1 < 24) : lpp M b q lay ≤ 6 := lp_le (h.nt hb (by omega)).2.2 (h.nt hb hq).2.2
theorem uins_le (h : uRR n Z M S C E P) {b p lay : Nat} (hb : b < 4) (hp : p < 6) : uins M b p lay ≤ 18 := by
  have := lpp_le h hb (q := 4 * p) (lay := lay) (by omega)
  have := lpp_le h hb (q := 4 * p + 1) (lay := lay) (by omega)
  have := lpp_le h hb (q := 4 * p + 2) (lay := lay) (by omega)
  unfold uins
  omega
theorem m_leap (h : uRR n Z M S C E P) {b q lay : Nat} (hb : b < 4) (hq : q + 1 < 24) (hl : lay ≤ 1) : fX7_leap (nI b) (nI q) (nI lay) M = some (nI (lpp M b q lay)) := by
  obtain ⟨e1, _, n1⟩ := h.nt hb (show q < 24 by omega)
  obtain ⟨e2, _, n2⟩ := h.nt hb hq
  have g := lgapM _ (spot_lt (lay := lay) n2) _ (spot_lt (lay := lay) n1)
  unfold fX7_leap
  rw [u_l24, nI_add, gdn (by omega) (by omega), nIc (by omega), e1, m_lies hl n1, cl1_s, u_a1, gdn (by omega) (by omega), nIc (by omega), show 24 * b + q + 1 = 24 * b + (q + 1) by omega, e2, m_lies hl n2, cl1_s]
  unfold fX7_leap_56 fX7_leap_78
  show _ = some (nI (lgap (spot lay (nto M b (q + 1))) (spot lay (nto M b q))))
  rw [← g]
  split
  · split <;> rfl
  · split <;> rfl
theorem m_within (h : uRR n Z M S C E P) {b p lay : Nat} (hb : b < 4) (hp : p < 6) (hl : lay ≤ 1) : fX7_within (nI b) (nI p) (nI lay) M = some (nI (uins M b p lay)) := by
  unfold fX7_within
  rw [u_l4, m_leap h hb (by omega) hl, cl1_s, u_a1, m_leap h hb (by omega) hl, cl1_s, u_a2, m_leap h hb (by omega) hl, cl1_s, nI_add, nI_add]
  rfl
/-- by how much the seat k comes to the phrase p, if same says that it plays the one ahead -/
noncomputable def uto (M : MT) (P : Nat → Nat → Nat) (b p k : Nat) (same : Prop) : Nat := @ite _ (p = 0) _ 0 (@ite _ same (Classical.propDecidable same) (lpp M b (4 * p - 1) (lyo M P b k)) 2)
theorem uto_0 {b k : Nat} {same : Prop} : uto M P b 0 k same = 0 := if_pos rfl
theorem uto_t {b p k : Nat} {same : Prop} (hp : 0 < p) (hs : same) : uto M P b p k same = lpp M b (4 * p - 1) (lyo M P b k) := by
  unfold uto
  rw [if_neg (by omega)]
  exact if_pos hs
theorem uto_f {b p k : Nat} {same : Prop} (hp : 0 < p) (hs : ¬ same) : uto M P b p k same = 2 := by
  unfold uto
  rw [if_neg (by omega)]
  exact if_neg hs
theorem uto_le (h : uRR n Z M S C E P) {b p k : Nat} (hb : b < 4) (hp : p < 6) {same : Prop} : uto M P b p k same ≤ 6 := by
  by_cases h0 : p = 0
  · subst h0
    rw [uto_0]
    omega
  · by_cases hs : same
    · rw [uto_t (by omega) hs]
      exact lpp_le h hb (by omega)
    · rw [uto_f (by omega) hs]
      omega
theorem m_between (h : uRR n Z M S C E P) {b p k : Nat} {a : Int32} (hb : b < 4) (hp0 : 0 < p) (hp : p < 6) (hk : k < S b) : fX7_between (nI b) (nI p) (nI k) a M = some (nI (uto M P b p k (nI k = a))) := by
  have hS := (h.nS hb).1
  have hnl := h.nl.1
  obtain ⟨p1, p2, p3, p4⟩ := h.2.2.2.2.2.2.1.2.1 b k hb hk
  obtain ⟨l1, l2, l3⟩ := h.ly hb hk
  unfold fX7_between
  by_cases hs : nI k = a
  · rw [if_pos hs, uto_t hp0 hs, u_l8, nI_add, gdn (by omega) (by omega), nIc (by omega), p4, gdn (by omega) (by omega), nIc (by omega), l1, u_l4, u_s1 (by omega), m_leap h hb (by omega) l3, cl1_s]
    rfl
  · rw [if_neg hs, uto_f hp0 hs]
    rfl
/-! the class's -/
theorem c_inside_s (h : uRR n Z M S C E P) {Z' : CZ} (h11 : Z'.1 11 = Z.1 11) {b p lay x v : Nat} (hb : b < 4) (hp : p < 6) (hl : lay ≤ 1) (hx : x < 3) (fuel : Nat) : lf5 (fX2_leapsInside_7 Z') (fuel + 1) b (nI p) (nI lay) (nI v) (nI (4 * p + x)) = lf5 (fX2_leapsInside_7 Z') fuel b (nI p) (nI lay) (nI (v + lpp M b (4 * p + x) lay)) (nI (4 * p + (x + 1))) := by
  obtain ⟨_, e1, n1⟩ := h.nt hb (show 4 * p + x < 24 by omega)
  obtain ⟨_, e2, n2⟩ := h.nt hb (show 4 * p + x + 1 < 24 by omega)
  rw [lf5_s]
  unfold fX2_leapsInside_7
  rw [u_r4, u_f3, if_neg (nI_ge (by omega) (by omega)), cLv10 hb, gdt, gdn (by omega) (by omega), u_a1, gdn (by omega) (by omega), nIc (by omega), nIc (by omega), h11, e1, e2, c_leap hl n1 n2, cl1_s, bnd_e, bnd_e, nI_add]
  rfl
theorem c_inside (h : uRR n Z M S C E P) {Z' : CZ} (h11 : Z'.1 11 = Z.1 11) {b p lay : Nat} (hb : b < 4) (hp : p < 6) (hl : lay ≤ 1) : fX2_leapsInside b (nI p) (nI lay) Z' = some (nI (uins M b p lay)) := by
  unfold fX2_leapsInside
  rw [bnd_e, u_r4, show nI (p * 4) = nI (4 * p + 0) from by rw [show p * 4 = 4 * p + 0 by omega]]
  show lf5 (fX2_leapsInside_7 Z') (96 + 1 + 1 + 1 + 1) b (nI p) (nI lay) (nI 0) (nI (4 * p + 0)) = _
  rw [c_inside_s h h11 hb hp hl (by omega), c_inside_s h h11 hb hp hl (by omega), c_inside_s h h11 hb hp hl (by omega), lf5_s]
  unfold fX2_leapsInside_7
  rw [u_r4, u_f3, if_pos (nI_le (by omega) (by omega))]
  unfold fX2_leapsInside_48 uins
  rw [Nat.zero_add]
  rfl
theorem c_into (h : uRR n Z M S C E P) {Z' : CZ} (h11 : Z'.1 11 = Z.1 11) {b p k : Nat} (hb : b < 4) (hp : p < 6) (hk : k < S b) (same : Prop) {t : Int32} (ht : (same ∧ t = 1) ∨ (¬ same ∧ t = 0)) : fX2_leapsInto b (nI p) t (nI (lyo M P b k)) Z' = some (nI (uto M P b p k same)) := by
  obtain ⟨l1, l2, l3⟩ := h.ly hb hk
  unfold fX2_leapsInto
  by_cases h0 : p = 0
  · subst h0
    rw [uto_0, if_neg (by decide)]
    rfl
  · rw [if_pos (show (0 : Int32) < nI p from nI_lt (a := 0) (by omega) (by omega)), bnd_e]
    rcases ht with ⟨hs, rfl⟩ | ⟨hs, rfl⟩
    · obtain ⟨_, e1, n1⟩ := h.nt hb (show 4 * p - 1 < 24 by omega)
      obtain ⟨_, e2, n2⟩ := h.nt hb (show 4 * p - 1 + 1 < 24 by omega)
      rw [if_neg (by decide), uto_t (by omega) hs, cLv10 hb, gdt, u_r4, u_s1 (by omega), gdn (by omega) (by omega), gdn (by omega) (by omega), nIc (by omega), nIc (by omega), h11, show p * 4 - 1 = 4 * p - 1 by omega, e1, show p * 4 = 4 * p - 1 + 1 by omega, e2, c_leap l3 n1 n2, cl1_s]
      rfl
    · rw [if_pos (by decide), uto_f (by omega) hs]
      rfl
end URL
/-! the least of a row -/
def pBest (row : Nat → Option Nat) (f : Nat → Nat) (s k0 v0 : Nat) : Prop := k0 < s ∧ (∃ w, row k0 = some w ∧ v0 = w + f k0) ∧ (∀ k w, k < s → row k = some w → v0 ≤ w + f k) ∧ ∀ k w, k < k0 → row k = some w → v0 < w + f k
def pNo (row : Nat → Option Nat) (s : Nat) : Prop := ∀ k, k < s → row k = none
theorem pBest.uniq {row : Nat → Option Nat} {f : Nat → Nat} {s k0 v0 k1 v1 : Nat} (h : pBest row f s k0 v0) (g : pBest row f s k1 v1) : k0 = k1 ∧ v0 = v1 := by
  obtain ⟨h1, ⟨w, h2, h3⟩, h4, h5⟩ := h
  obtain ⟨g1, ⟨y, g2, g3⟩, g4, g5⟩ := g
  have a1 := h4 k1 y g1 g2
  have a2 := g4 k0 w h1 h2
  have ev : v0 = v1 := by omega
  refine ⟨?_, ev⟩
  rcases Nat.lt_trichotomy k0 k1 with q | q | q
  · have := g5 k0 w q h2
    omega
  · exact q
  · have := h5 k1 y q g2
    omega
theorem pBest.no {row : Nat → Option Nat} {f : Nat → Nat} {s k0 v0 : Nat} (h : pBest row f s k0 v0) (g : pNo row s) : False := by
  obtain ⟨h1, ⟨w, h2, h3⟩, _⟩ := h
  rw [g k0 h1] at h2
  cases h2
noncomputable def bv (row : Nat → Option Nat) (f : Nat → Nat) (s : Nat) : Option Nat := @dite _ (∃ v0, ∃ k0, pBest row f s k0 v0) (Classical.propDecidable _) (fun h => some h.choose) (fun _ => none)
noncomputable def am (row : Nat → Option Nat) (f : Nat → Nat) (s : Nat) : Nat := @dite _ (∃ k0, ∃ v0, pBest row f s k0 v0) (Classical.propDecidable _) (fun h => h.choose) (fun _ => 0)
theorem bv_s {row : Nat → Option Nat} {f : Nat → Nat} {s k0 v0 : Nat} (h : pBest row f s k0 v0) : bv row f s = some v0 := by
  have hx : ∃ v0, ∃ k0, pBest row f s k0 v0 := ⟨v0, k0, h⟩
  unfold bv
  rw [dif_pos hx]
  obtain ⟨k1, h1⟩ := hx.choose_spec
  rw [(h1.uniq h).2]
theorem bv_n {row : Nat → Option Nat} {f : Nat → Nat} {s : Nat} (h : pNo row s) : bv row f s = none := dif_neg (fun ⟨_, _, q⟩ => q.no h)
theorem am_s {row : Nat → Option Nat} {f : Nat → Nat} {s k0 v0 : Nat} (h : pBest row f s k0 v0) : am row f s = k0 := by
  have hx : ∃ k0, ∃ v0, pBest row f s k0 v0 := ⟨k0, v0, h⟩
  unfold am
  rw [dif_pos hx]
  obtain ⟨v1, h1⟩ := hx.choose_spec
  exact (h1.uniq h).1
/-- one seat more -/
theorem pBest.add {row : Nat → Option Nat} {f : Nat → Nat} {x k0 v0 : Nat} (h : pBest row f x k0 v0) (hn : ∀ w, row x = some w → v0 ≤ w + f x) : pBest row f (x + 1) k0 v0 := ⟨by have := h.1; omega, h.2.1, fun k w hk hw => by
  by_cases e : k = x
  · subst e
    exact hn w hw
  · exact h.2.2.1 k w (by omega) hw, h.2.2.2⟩
theorem pBest.new {row : Nat → Option Nat} {f : Nat → Nat} {x w : Nat} (hw : row x = some w) (h : ∀ k u, k < x → row k = some u → w + f x < u + f k) : pBest row f (x + 1) x (w + f x) := ⟨by omega, ⟨w, hw, rfl⟩, fun k u hk hu => by
  by_cases e : k = x
  · subst e
    rw [hw] at hu
    cases hu
    exact Nat.le_refl _
  · have := h k u (by omega) hu
    omega, fun k u hk hu => h k u hk hu⟩
