/-! PURE PART. Leaps. -/
def spot (lay n : Nat) : Nat := if lay = 0 then 7 * n % 12 else 4 * (n % 3) + n / 3
def lgap (x y : Nat) : Nat := if y ≤ x then (if 12 - (x - y) < x - y then 12 - (x - y) else x - y) else (if 12 - (y - x) < y - x then 12 - (y - x) else y - x)
def lp (lay a b : Nat) : Nat := lgap (spot lay b) (spot lay a)
theorem spot_lt {lay n : Nat} (hn : n < 12) : spot lay n < 12 := by
  unfold spot
  split <;> omega
theorem lgap_le {x y : Nat} (hx : x < 12) (hy : y < 12) : lgap x y ≤ 6 := by
  unfold lgap
  split
  · split <;> omega
  · split <;> omega
theorem lp_le {lay a b : Nat} (ha : a < 12) (hb : b < 12) : lp lay a b ≤ 6 := lgap_le (spot_lt hb) (spot_lt ha)
theorem lgapC : ∀ x, x < 12 → ∀ y, y < 12 → (if ((12 : Int32) - (if 0 ≤ (nI x - nI y) then (nI x - nI y) else 0 - (nI x - nI y))) < (if 0 ≤ (nI x - nI y) then (nI x - nI y) else 0 - (nI x - nI y)) then ((12 : Int32) - (if 0 ≤ (nI x - nI y) then (nI x - nI y) else 0 - (nI x - nI y))) else (if 0 ≤ (nI x - nI y) then (nI x - nI y) else 0 - (nI x - nI y))) = nI (lgap x y) := by decide +kernel
theorem lgapM : ∀ x, x < 12 → ∀ y, y < 12 → (if nI y ≤ nI x then (if ((12 : Int32) - (nI x - nI y)) ≤ (nI x - nI y) then ((12 : Int32) - (nI x - nI y)) else (nI x - nI y)) else (if ((12 : Int32) - (nI y - nI x)) ≤ (nI y - nI x) then ((12 : Int32) - (nI y - nI x)) else (nI y - nI x))) = nI (lgap x y) := by decide +kernel
theorem c_spot {lay n : Nat} (hl : lay ≤ 1) (hn : n < 12) (Z : CZ) : fX2_spotOf (nI lay) (nI n) Z = some (nI (spot lay n)) := by
  unfold fX2_spotOf spot
  have : lay = 0 ∨ lay = 1 := by omega
  rcases this with rfl | rfl
  · rw [if_pos (show nI 0 = 0 from rfl), if_pos rfl, u_l7, u_e12 (by omega)]
    rfl
  · rw [if_neg (by decide), if_neg (by omega), u_e3 (by omega), u_l4, u_d3 (by omega), nI_add]
    rfl
theorem c_leap {lay a b : Nat} (hl : lay ≤ 1) (ha : a < 12) (hb : b < 12) (Z : CZ) : fX2_leapBetween (nI lay) (nI a) (nI b) Z = some (nI (lp lay a b)) := by
  unfold fX2_leapBetween
  rw [c_spot hl hb, cl1_s, c_spot hl ha, cl1_s, bnd_e, lgapC _ (spot_lt hb) _ (spot_lt ha)]
  rfl
section URL
variable {n : Nat} {Z : CZ} {M : MT} {S C : Nat → Nat} {E P : Nat → Nat → Nat}
def nto (M : MT) (b j : Nat) : Nat := (M 18 (24 * b + j)).toNatClampNeg
def lyo (M : MT) (P : Nat → Nat → Nat) (b k : Nat) : Nat := (M 11 (P b k)).toNatClampNeg
/-- the leap from the place q of the song of b -/
def lpp (M : MT) (b q lay : Nat) : Nat := lp lay (nto M b q) (nto M b (q + 1))
def uins (M : MT) (b p lay : Nat) : Nat := lpp M b (4 * p) lay + lpp M b (4 * p + 1) lay + lpp M b (4 * p + 2) lay
theorem uRR.nt (h : uRR n Z M S C E P) {b j : Nat} (hb : b < 4) (hj : j < 24) : M 18 (24 * b + j) = nI (nto M b j) ∧ Z.1 11 b j = nI (nto M b j) ∧ nto M b j < 12 := by
  obtain ⟨e, v, v1, v2⟩ := (h.2.2.2.2.2.2.2.2.2.1 b hb).2.2.2 j hj
  have ev : nto M b j = v := by
    unfold nto
    rw [v2, nIc (by omega)]
  rw [ev, e, v2]
  exact ⟨rfl, rfl, v1⟩
theorem uRR.ly (h : uRR n Z M S C E P) {b k : Nat} (hb : b < 4) (hk : k < S b) : M 11 (P b k) = nI (lyo M P b k) ∧ Z.1 9 (P b k) 1 = nI (lyo M P b k) ∧ lyo M P b k ≤ 1 := by
  have p2 := (h.2.2.2.2.2.2.1.2.1 b k hb hk).2.1
  obtain ⟨_, e, u, _⟩ := h.2.2.2.2.1.2.2 _ p2
  unfold lyo
  rw [e]
  rcases u with u | u
  · rw [u]
    exact ⟨rfl, rfl, by decide⟩
  · rw [u]
    exact ⟨rfl, rfl, by decide⟩
theorem lpp_le (h : uRR n Z M S C E P) {b q lay : Nat} (hb : b < 4) (hq : q + 1 < 24) : lpp M b q lay ≤ 6 := lp_le (h.nt hb (by omega)).2.2 (h.nt hb hq).2.2
theorem uins_le (h : uRR n Z M S C E P) {b p lay : Nat} (hb : b < 4) (hp : p < 6) : uins M b p lay ≤ 18 := by
  have := lpp_le h hb (q := 4 * p) (lay := lay) (by omega)
  have := lpp_le h hb (q := 4 * p + 1) (lay := lay) (by omega)
  have := lpp_le h hb (q := 4 * p + 2) (lay := lay) (by omega)
  unfold uins
  omega
/-- by how much the seat k comes to the phrase p, if same says that it plays the one ahead -/
noncomputable def uto (M : MT) (P : Nat → Nat → Nat) (b p k : Nat) (same : Prop) : Nat := @ite _ (p = 0) _ 0 (@ite _ same (Classical.propDecidable same) (lpp M b (4 * p - 1) (lyo M P b k)) 2)
theorem uto_0 {b k : Nat} {same : Prop} : uto M P b 0 k same = 0 := if_pos rfl
theorem uto_t {b p k : Nat} {same : Prop} (hp : 0 < p) (hs : same) : uto M P b p k same = lpp M b (4 * p - 1) (lyo M P b k) := by
  unfold uto
  rw [if_neg (by omega)]
  exact if_pos hs
theorem uto_f {b p k : Nat} {same : Prop} (hp : 0 < p) (hs : ¬ same) : uto M P b p k same = 2 := by
  unfold uto
  rw [if_neg (by omega)]
  exact if_neg hs
theorem uto_le (h : uRR n Z M S C E P) {b p k : Nat} (hb : b < 4) (hp : p < 6) {same : Prop} : uto M P b p k same ≤ 6 := by
  by_cases h0 : p = 0
  · subst h0
    rw [uto_0]
    omega
  · by_cases hs : same
    · rw [uto_t (by omega) hs]
      exact lpp_le h hb (by omega)
    · rw [uto_f (by omega) hs]
      omega
/-! the class's -/
theorem c_inside_s (h : uRR n Z M S C E P) {Z' : CZ} (h11 : Z'.1 11 = Z.1 11) {b p lay x v : Nat} (hb : b < 4) (hp : p < 6) (hl : lay ≤ 1) (hx : x < 3) (fuel : Nat) : lf5 (fX2_leapsInside_7 Z') (fuel + 1) b (nI p) (nI lay) (nI v) (nI (4 * p + x)) = lf5 (fX2_leapsInside_7 Z') fuel b (nI p) (nI lay) (nI (v + lpp M b (4 * p + x) lay)) (nI (4 * p + (x + 1))) := by
  obtain ⟨_, e1, n1⟩ := h.nt hb (show 4 * p + x < 24 by omega)
  obtain ⟨_, e2, n2⟩ := h.nt hb (show 4 * p + x + 1 < 24 by omega)
  rw [lf5_s]
  unfold fX2_leapsInside_7
  rw [u_r4, u_f3, if_neg (nI_ge (by omega) (by omega)), cLv10 hb, gdt, gdn (by omega) (by omega), u_a1, gdn (by omega) (by omega), nIc (by omega), nIc (by omega), h11, e1, e2, c_leap hl n1 n2, cl1_s, bnd_e, bnd_e, nI_add]
  rfl
theorem c_inside (h : uRR n Z M S C E P) {Z' : CZ} (h11 : Z'.1 11 = Z.1 11) {b p lay : Nat} (hb : b < 4) (hp : p < 6) (hl : lay ≤ 1) : fX2_leapsInside b (nI p) (nI lay) Z' = some (nI (uins M b p lay)) := by
  unfold fX2_leapsInside
  rw [bnd_e, u_r4, show nI (p * 4) = nI (4 * p + 0) from by rw [show p * 4 = 4 * p + 0 by omega]]
  show lf5 (fX2_leapsInside_7 Z') (96 + 1 + 1 + 1 + 1) b (nI p) (nI lay) (nI 0) (nI (4 * p + 0)) = _
  rw [c_inside_s h h11 hb hp hl (by omega), c_inside_s h h11 hb hp hl (by omega), c_inside_s h h11 hb hp hl (by omega), lf5_s]
  unfold fX2_leapsInside_7
  rw [u_r4, u_f3, if_pos (nI_le (by omega) (by omega))]
  unfold fX2_leapsInside_48 uins
  rw [Nat.zero_add]
  rfl
theorem c_into (h : uRR n Z M S C E P) {Z' : CZ} (h11 : Z'.1 11 = Z.1 11) {b p k : Nat} (hb : b < 4) (hp : p < 6) (hk : k < S b) (same : Prop) {t : Int32} (ht : (same ∧ t = 1) ∨ (¬ same ∧ t = 0)) : fX2_leapsInto b (nI p) t (nI (lyo M P b k)) Z' = some (nI (uto M P b p k same)) := by
  obtain ⟨l1, l2, l3⟩ := h.ly hb hk
  unfold fX2_leapsInto
  by_cases h0 : p = 0
  · subst h0
    rw [uto_0, if_neg (by decide)]
    rfl
  · rw [if_pos (show (0 : Int32) < nI p from nI_lt (a := 0) (by omega) (by omega)), bnd_e]
    rcases ht with ⟨hs, rfl⟩ | ⟨hs, rfl⟩
    · obtain ⟨_, e1, n1⟩ := h.nt hb (show 4 * p - 1 < 24 by omega)
      obtain ⟨_, e2, n2⟩ := h.nt hb (show 4 * p - 1 + 1 < 24 by omega)
      rw [if_neg (by decide), uto_t (by omega) hs, cLv10 hb, gdt, u_r4, u_s1 (by omega), gdn (by omega) (by omega), gdn (by omega) (by omega), nIc (by omega), nIc (by omega), h11, show p * 4 - 1 = 4 * p - 1 by omega, e1, show p * 4 = 4 * p - 1 + 1 by omega, e2, c_leap l3 n1 n2, cl1_s]
      rfl
    · rw [if_pos (by decide), uto_f (by omega) hs]
      rfl
end URL
/-! the least of a row -/
def pBest (row : Nat → Option Nat) (f : Nat → Nat) (s k0 v0 : Nat) : Prop := k0 < s ∧ (∃ w, row k0 = some w ∧ v0 = w + f k0) ∧ (∀ k w, k < s → row k = some w → v0 ≤ w + f k) ∧ ∀ k w, k < k0 → row k = some w → v0 < w + f k
def pNo (row : Nat → Option Nat) (s : Nat) : Prop := ∀ k, k < s → row k = none
theorem pBest.uniq {row : Nat → Option Nat} {f : Nat → Nat} {s k0 v0 k1 v1 : Nat} (h : pBest row f s k0 v0) (g : pBest row f s k1 v1) : k0 = k1 ∧ v0 = v1 := by
  obtain ⟨h1, ⟨w, h2, h3⟩, h4, h5⟩ := h
  obtain ⟨g1, ⟨y, g2, g3⟩, g4, g5⟩ := g
  have a1 := h4 k1 y g1 g2
  have a2 := g4 k0 w h1 h2
  have ev : v0 = v1 := by omega
  refine ⟨?_, ev⟩
  rcases Nat.lt_trichotomy k0 k1 with q | q | q
  · have := g5 k0 w q h2
    omega
  · exact q
  · have := h5 k1 y q g2
    omega
theorem pBest.no {row : Nat → Option Nat} {f : Nat → Nat} {s k0 v0 : Nat} (h : pBest row f s k0 v0) (g : pNo row s) : False := by
  obtain ⟨h1, ⟨w, h2, h3⟩, _⟩ := h
  rw [g k0 h1] at h2
  cases h2
noncomputable def bv (row : Nat → Option Nat) (f : Nat → Nat) (s : Nat) : Option Nat := @dite _ (∃ v0, ∃ k0, pBest row f s k0 v0) (Classical.propDecidable _) (fun h => some h.choose) (fun _ => none)
noncomputable def am (row : Nat → Option Nat) (f : Nat → Nat) (s : Nat) : Nat := @dite _ (∃ k0, ∃ v0, pBest row f s k0 v0) (Classical.propDecidable _) (fun h => h.choose) (fun _ => 0)
theorem bv_s {row : Nat → Option Nat} {f : Nat → Nat} {s k0 v0 : Nat} (h : pBest row f s k0 v0) : bv row f s = some v0 := by
  have hx : ∃ v0, ∃ k0, pBest row f s k0 v0 := ⟨v0, k0, h⟩
  unfold bv
  rw [dif_pos hx]
  obtain ⟨k1, h1⟩ := hx.choose_spec
  rw [(h1.uniq h).2]
theorem bv_n {row : Nat → Option Nat} {f : Nat → Nat} {s : Nat} (h : pNo row s) : bv row f s = none := dif_neg (fun ⟨_, _, q⟩ => q.no h)
theorem am_s {row : Nat → Option Nat} {f : Nat → Nat} {s k0 v0 : Nat} (h : pBest row f s k0 v0) : am row f s = k0 := by
  have hx : ∃ k0, ∃ v0, pBest row f s k0 v0 := ⟨k0, v0, h⟩
  unfold am
  rw [dif_pos hx]
  obtain ⟨v1, h1⟩ := hx.choose_spec
  exact (h1.uniq h).1
/-- one seat more -/
theorem pBest.add {row : Nat → Option Nat} {f : Nat → Nat} {x k0 v0 : Nat} (h : pBest row f x k0 v0) (hn : ∀ w, row x = some w → v0 ≤ w + f x) : pBest row f (x + 1) k0 v0 := ⟨by have := h.1; omega, h.2.1, fun k w hk hw => by
  by_cases e : k = x
  · subst e
    exact hn w hw
  · exact h.2.2.1 k w (by omega) hw, h.2.2.2⟩
theorem pBest.new {row : Nat → Option Nat} {f : Nat → Nat} {x w : Nat} (hw : row x = some w) (h : ∀ k u, k < x → row k = some u → w + f x < u + f k) : pBest row f (x + 1) x (w + f x) := ⟨by omega, ⟨w, hw, rfl⟩, fun k u hk hu => by
  by_cases e : k = x
  · subst e
    rw [hw] at hu
    cases hu
    exact Nat.le_refl _
  · have := h k u (by omega) hu
    omega, fun k u hk hu => h k u hk hu⟩

/-! PURE PART. The best parts: what they are, and how the class finds them. -/
noncomputable def uf (M : MT) (P : Nat → Nat → Nat) (b p : Nat) (a : Int32) : Nat → Nat := fun k => uto M P b p k (nI k = a)
/-- of the phrase that is j ahead of the last one of ph: the leaps from there on, for each seat -/
noncomputable def urow (M : MT) (P : Nat → Nat → Nat) (s b ph : Nat) (out : Int32) : Nat → Nat → Option Nat
  | 0 => fun k => if M 19 (6 * (8 * b + k) + (ph - 1)) = 1 ∧ ¬ nI k = out then some (uins M b (ph - 1) (lyo M P b k)) else none
  | j + 1 => fun k => if M 19 (6 * (8 * b + k) + (ph - 1 - (j + 1))) = 1 ∧ ¬ nI k = out then (bv (urow M P s b ph out j) (uf M P b (ph - 1 - j) (nI k)) s).map (fun v => uins M b (ph - 1 - (j + 1)) (lyo M P b k) + v) else none
noncomputable def uR' (M : MT) (P : Nat → Nat → Nat) (s b ph : Nat) (out : Int32) (p : Nat) : Nat → Option Nat := urow M P s b ph out (ph - 1 - p)
noncomputable def uch (M : MT) (P : Nat → Nat → Nat) (s b ph : Nat) (out : Int32) : Nat → Nat
  | 0 => am (uR' M P s b ph out 0) (uf M P b 0 (-1)) s
  | p + 1 => am (uR' M P s b ph out (p + 1)) (uf M P b (p + 1) (nI (uch M P s b ph out p))) s
def urdy (M : MT) (P : Nat → Nat → Nat) (s b ph : Nat) (out : Int32) : Prop := 0 < ph ∧ ∀ q, q < ph → ¬ pNo (uR' M P s b ph out q) s
noncomputable def uval (M : MT) (P : Nat → Nat → Nat) (s b ph : Nat) (out : Int32) : Nat := (bv (uR' M P s b ph out 0) (uf M P b 0 (-1)) s).getD 0
section URPC
variable {n : Nat} {Z : CZ} {M : MT} {S C : Nat → Nat} {E P : Nat → Nat → Nat} {s b ph : Nat} {out : Int32}
theorem uR_last (hp : 0 < ph) (k : Nat) : uR' M P s b ph out (ph - 1) k = if M 19 (6 * (8 * b + k) + (ph - 1)) = 1 ∧ ¬ nI k = out then some (uins M b (ph - 1) (lyo M P b k)) else none := by
  unfold uR'
  rw [show ph - 1 - (ph - 1) = 0 by omega]
  rfl
theorem uR_step {p : Nat} (hp : p + 1 < ph) (k : Nat) : uR' M P s b ph out p k = if M 19 (6 * (8 * b + k) + p) = 1 ∧ ¬ nI k = out then (bv (uR' M P s b ph out (p + 1)) (uf M P b (p + 1) (nI k)) s).map (fun v => uins M b p (lyo M P b k) + v) else none := by
  unfold uR'
  obtain ⟨j, hj⟩ : ∃ j, ph - 1 - p = j + 1 := ⟨ph - 2 - p, by omega⟩
  rw [hj, show ph - 1 - (p + 1) = j by omega]
  show (if M 19 (6 * (8 * b + k) + (ph - 1 - (j + 1))) = 1 ∧ ¬ nI k = out then (bv (urow M P s b ph out j) (uf M P b (ph - 1 - j) (nI k)) s).map (fun v => uins M b (ph - 1 - (j + 1)) (lyo M P b k) + v) else none) = _
  rw [show ph - 1 - (j + 1) = p by omega, show ph - 1 - j = p + 1 by omega]
theorem uR_no {p : Nat} (hp : p + 1 < ph) (h : pNo (uR' M P s b ph out (p + 1)) s) : pNo (uR' M P s b ph out p) s := fun k hk => by
  rw [uR_step hp, bv_n h]
  split <;> rfl
theorem uR_no0 : ∀ q, q < ph → pNo (uR' M P s b ph out q) s → pNo (uR' M P s b ph out 0) s
  | 0, _, h => h
  | q + 1, hq, h => uR_no0 q (by omega) (uR_no hq h)
theorem bv_le {row : Nat → Option Nat} {f : Nat → Nat} {s B F v : Nat} (hr : ∀ k w, k < s → row k = some w → w ≤ B) (hf : ∀ k, k < s → f k ≤ F) (h : bv row f s = some v) : v ≤ B + F := by
  by_cases hx : ∃ v0, ∃ k0, pBest row f s k0 v0
  · obtain ⟨v0, k0, hb⟩ := hx
    rw [bv_s hb] at h
    cases h
    obtain ⟨h1, ⟨w, h2, h3⟩, _⟩ := hb
    have := hr k0 w h1 h2
    have := hf k0 h1
    omega
  · unfold bv at h
    rw [dif_neg hx] at h
    cases h
theorem uR_le (h : uRR n Z M S C E P) (hb : b < 4) (hph : ph ≤ 6) : ∀ d p, p + d + 1 = ph → ∀ k w, k < s → uR' M P s b ph out p k = some w → w ≤ 24 * (d + 1)
  | 0, p, hp, k, w, hk, hw => by
    rw [show p = ph - 1 by omega, uR_last (by omega)] at hw
    split at hw
    · cases hw
      have := uins_le h hb (p := ph - 1) (lay := lyo M P b k) (by omega)
      omega
    · cases hw
  | d + 1, p, hp, k, w, hk, hw => by
    rw [uR_step (by omega)] at hw
    split at hw
    · rcases hv : bv (uR' M P s b ph out (p + 1)) (uf M P b (p + 1) (nI k)) s with _ | v
      · rw [hv] at hw
        cases hw
      · rw [hv] at hw
        cases hw
        have h1 := bv_le (B := 24 * (d + 1)) (F := 6) (fun k' w' hk' hw' => uR_le h hb hph d (p + 1) (by omega) k' w' hk' hw') (fun k' hk' => uto_le h hb (by omega)) hv
        have := uins_le h hb (p := p) (lay := lyo M P b k) (by omega)
        show uins M b p (lyo M P b k) + v ≤ _
        omega
    · cases hw
theorem uR_le2 (h : uRR n Z M S C E P) (hb : b < 4) (hph : ph ≤ 6) {p k w : Nat} (hp : p < ph) (hk : k < s) (hw : uR' M P s b ph out p k = some w) : w ≤ 144 := by
  have := uR_le h hb hph (ph - 1 - p) p (by omega) k w hk hw
  omega
/-- a search may write the rows and the playing ones -/
def czf (Z Z' : CZ) : Prop := Z'.2 = Z.2 ∧ ∀ k, k ≠ 18 → k ≠ 16 → Z'.1 k = Z.1 k
theorem czf.uRR {Z' : CZ} (hz : czf Z Z') (h : uRR n Z M S C E P) : uRR n Z' M S C E P := by
  have e : Z' = (va_up (va_up Z.1 18 (Z'.1 18)) 16 (Z'.1 16), Z.2) := zz_eq (up_eq2 hz.2) hz.1
  rw [e]
  exact h
theorem c_best_l (h : uRR n Z M S C E P) {p : Nat} (hb : b < 4) (hp : p < 6) (row : Nat → Option Nat) (hrow : ∀ k, k < S b → Z.1 18 p k = oi (row k)) (hbd : ∀ k w, k < S b → row k = some w → w ≤ 144) (a : Int32) : ∀ (d x fuel : Nat) (x4 x5 : Int32), x + d = S b → d < fuel → ((x4 = -1 ∧ pNo row x) ∨ ∃ k0 v0, x4 = nI k0 ∧ x5 = nI v0 ∧ pBest row (uf M P b p a) x k0 v0) → ∃ w : Int32, lf6 (fX2_bestSeat_19 Z) fuel b (nI p) a x4 x5 (nI x) = some w ∧ ((w = -1 ∧ pNo row (S b)) ∨ ∃ k0 v0, w = nI k0 ∧ pBest row (uf M P b p a) (S b) k0 v0)
  | _, _, 0, _, _, _, hf, _ => absurd hf (by omega)
  | 0, x, fuel + 1, x4, x5, hx, _, hi => by
    have hS := h.nS hb
    have ex : x = S b := by omega
    subst ex
    refine ⟨x4, ?_, ?_⟩
    · rw [lf6_s]
      unfold fX2_bestSeat_19
      rw [cLv10 hb, gdt, cLv3 (by omega), gdt, (h.ls4 hb).size (by omega), cl1_s, if_pos (nI_le (by omega) (by omega))]
      rfl
    · rcases hi with ⟨i1, i2⟩ | ⟨k0, v0, i1, i2, i3⟩
      · exact Or.inl ⟨i1, i2⟩
      · exact Or.inr ⟨k0, v0, i1, i3⟩
  | d + 1, x, fuel + 1, x4, x5, hx, hf, hi => by
    have hS := h.nS hb
    have hxS : x < S b := by omega
    obtain ⟨p1, p2, p3, p4⟩ := h.2.2.2.2.2.2.1.2.1 b x hb hxS
    obtain ⟨l1, l2, l3⟩ := h.ly hb hxS
    obtain ⟨u, hu⟩ : ∃ u, u = uf M P b p a x := ⟨_, rfl⟩
    have u6 : u ≤ 6 := by
      rw [hu]
      exact uto_le h hb hp
    have step : ∀ y4 y5 : Int32, (if oi (row x) = -1 then (y4 = x4 ∧ y5 = x5) else (if x4 = -1 then (y4 = nI x ∧ y5 = oi (row x) + nI u) else (if x5 ≤ oi (row x) + nI u then (y4 = x4 ∧ y5 = x5) else (y4 = nI x ∧ y5 = oi (row x) + nI u)))) → lf6 (fX2_bestSeat_19 Z) (fuel + 1) b (nI p) a x4 x5 (nI x) = lf6 (fX2_bestSeat_19 Z) fuel b (nI p) a y4 y5 (nI (x + 1)) := fun y4 y5 hy => by
      have e73 : ∀ t : Int32, ((nI x = a ∧ t = 1) ∨ (¬ nI x = a ∧ t = 0)) → fX2_bestSeat_73 Z (lf6 (fX2_bestSeat_19 Z) fuel) b (nI p) a x4 x5 (nI x) (nI (lyo M P b x)) t (nI p) b (oi (row x)) = lf6 (fX2_bestSeat_19 Z) fuel b (nI p) a y4 y5 (nI (x + 1)) := fun t ht => by
        unfold fX2_bestSeat_73
        rw [c_into h rfl hb hp hxS (nI x = a) ht, cl1_s, bnd_e, gdn hp (by omega), gdn (by omega) (by omega), nIc (by omega), nIc (by omega), hrow x hxS]
        rw [show uto M P b p x (nI x = a) = u from hu.symm]
        unfold fX2_bestSeat_107 fX2_bestSeat_115
        rw [bnd_e, bnd_e, u_a1]
        by_cases c1 : oi (row x) = -1
        · rw [if_pos c1] at hy ⊢
          rw [hy.1, hy.2]
        · rw [if_neg c1] at hy ⊢
          by_cases c2 : x4 = -1
          · rw [if_pos c2] at hy ⊢
            rw [hy.1, hy.2]
          · rw [if_neg c2] at hy ⊢
            by_cases c3 : x5 ≤ oi (row x) + nI u
            · rw [if_pos c3] at hy ⊢
              rw [hy.1, hy.2]
            · rw [if_neg c3] at hy ⊢
              rw [hy.1, hy.2]
      rw [lf6_s]
      rw [show fX2_bestSeat_19 Z (lf6 (fX2_bestSeat_19 Z) fuel) b (nI p) a x4 x5 (nI x) = gd (cLv Z.2.2 10 b) (gd (cLv Z.2.2 3 (b + 4)) (cl1 (fJx4a65c_size_8abf5 (b + 4) Z) (fun v6 => (if v6 ≤ nI x then fX2_bestSeat_121 Z x4 else cl1 (fJx4a65c_get_915e3 (b + 4) (nI x) Z) (fun q8 => gd (cLv Z.2.2 13 q8) (cl1 (Z.2.1 13 q8 0) (fun q11 => gd (cLv Z.2.2 9 q11) (bnd (Z.1 9 q11 1) (fun v14 => gd (gin (nI p) 6) (gd (gin (nI x) 8) ((if nI x = a then fX2_bestSeat_73 Z (lf6 (fX2_bestSeat_19 Z) fuel) b (nI p) a x4 x5 (nI x) v14 (1 : Int32) (nI p) b (Z.1 18 (Int32.toNatClampNeg (nI p)) (Int32.toNatClampNeg (nI x))) else fX2_bestSeat_73 Z (lf6 (fX2_bestSeat_19 Z) fuel) b (nI p) a x4 x5 (nI x) v14 (0 : Int32) (nI p) b (Z.1 18 (Int32.toNatClampNeg (nI p)) (Int32.toNatClampNeg (nI x))))))))))))))) from rfl]
      rw [cLv10 hb, gdt, cLv3 (by omega), gdt, (h.ls4 hb).size (by omega), cl1_s, if_neg (nI_ge hxS (by omega)), (h.ls4 hb).get (by omega) hxS, cl1_s, cLv13 p1, gdt, p3, cl1_s, cLv9 p2, gdt, l2, bnd_e, gdn hp (by omega), gdn (by omega) (by omega), nIc (by omega), nIc (by omega), hrow x hxS]
      by_cases hs : nI x = a
      · rw [if_pos hs]
        exact e73 1 (Or.inl ⟨hs, rfl⟩)
      · rw [if_neg hs]
        exact e73 0 (Or.inr ⟨hs, rfl⟩)
    rcases hw : row x with _ | w
    · have e1 : oi (row x) = -1 := by rw [hw]; rfl
      rw [step x4 x5 (by rw [if_pos e1]; exact ⟨rfl, rfl⟩)]
      refine c_best_l h hb hp row hrow hbd a d (x + 1) fuel x4 x5 (by omega) (by omega) ?_
      rcases hi with ⟨i1, i2⟩ | ⟨k0, v0, i1, i2, i3⟩
      · refine Or.inl ⟨i1, fun k hk => ?_⟩
        by_cases e : k = x
        · rw [e, hw]
        · exact i2 k (by omega)
      · exact Or.inr ⟨k0, v0, i1, i2, i3.add (fun w hw' => by rw [hw] at hw'; cases hw')⟩
    · have w144 := hbd x w hxS hw
      have e1 : ¬ oi (row x) = -1 := by
        rw [hw, oi_s, nIm1 (by omega)]
        exact id
      have ev : oi (row x) + nI u = nI (w + u) := by rw [hw, oi_s, nI_add]
      rcases hi with ⟨i1, i2⟩ | ⟨k0, v0, i1, i2, i3⟩
      · rw [step (nI x) (nI (w + u)) (by rw [if_neg e1, if_pos i1, ev]; exact ⟨rfl, rfl⟩)]
        refine c_best_l h hb hp row hrow hbd a d (x + 1) fuel _ _ (by omega) (by omega) (Or.inr ⟨x, w + u, rfl, rfl, ?_⟩)
        rw [hu]
        exact pBest.new hw (fun k y hk hy => by
          rw [i2 k hk] at hy
          cases hy)
      · have v0b : v0 ≤ 150 := by
          obtain ⟨j1, ⟨y, j2, j3⟩, _⟩ := i3
          have := hbd k0 y (by omega) j2
          have : uf M P b p a k0 ≤ 6 := uto_le h hb hp
          omega
        have k0s : k0 < S b := by
          have := i3.1
          omega
        have e4 : ¬ x4 = -1 := by
          rw [i1, nIm1 (by omega)]
          exact id
        by_cases hle : v0 ≤ w + u
        · rw [step x4 x5 (by rw [if_neg e1, if_neg e4, ev, i2, if_pos (nI_le hle (by omega))]; exact ⟨rfl, rfl⟩)]
          refine c_best_l h hb hp row hrow hbd a d (x + 1) fuel x4 x5 (by omega) (by omega) (Or.inr ⟨k0, v0, i1, i2, i3.add (fun y hy => ?_)⟩)
          rw [hw] at hy
          cases hy
          rw [← hu]
          exact hle
        · rw [step (nI x) (nI (w + u)) (by rw [if_neg e1, if_neg e4, ev, i2, if_neg (nI_ge (by omega) (by omega))]; exact ⟨rfl, rfl⟩)]
          refine c_best_l h hb hp row hrow hbd a d (x + 1) fuel _ _ (by omega) (by omega) (Or.inr ⟨x, w + u, rfl, rfl, ?_⟩)
          rw [hu]
          refine pBest.new hw (fun k y hk hy => ?_)
          have := i3.2.2.1 k y hk hy
          omega
theorem c_best (h : uRR n Z M S C E P) {p : Nat} (hb : b < 4) (hp : p < C b / 4) (row : Nat → Option Nat) (hrow : ∀ k, k < S b → Z.1 18 p k = oi (row k)) (hbd : ∀ k w, k < S b → row k = some w → w ≤ 144) (a : Int32) : ∃ w : Int32, fX2_bestSeat b (nI p) a Z = some w ∧ ((w = -1 ∧ pNo row (S b)) ∨ ∃ k0 v0, w = nI k0 ∧ pBest row (uf M P b p a) (S b) k0 v0) := by
  have hC := (h.nC hb).1
  have hS := (h.nS hb).1
  obtain ⟨w, w1, w2⟩ := c_best_l h hb (show p < 6 by omega) row hrow hbd a (S b) 0 100 (-1) 0 (by omega) (by omega) (Or.inl ⟨rfl, fun k hk => by omega⟩)
  refine ⟨w, ?_, w2⟩
  unfold fX2_bestSeat
  rw [cLv10 hb, gdt, h.phc hb, cl1_s, if_pos (nI_lt hp (by omega))]
  exact w1
theorem c_best_end (h : uRR n Z M S C E P) {p : Nat} (hb : b < 4) (hp : C b / 4 ≤ p) (hp6 : p ≤ 6) (a : Int32) : fX2_bestSeat b (nI p) a Z = some (-1) := by
  have hC := (h.nC hb).1
  unfold fX2_bestSeat
  rw [cLv10 hb, gdt, h.phc hb, cl1_s, if_neg (nI_nlt hp (by omega))]
/-- one phrase counted -/
theorem c_count_l (h : uRR n Z M S C E P) {p : Nat} (hb : b < 4) (hp : p < C b / 4) (hnx : p + 1 < C b / 4 → ¬ pNo (uR' M P (S b) b (C b / 4) out (p + 1)) (S b)) : ∀ (d x fuel : Nat) (x4 : Int32) (Z' : CZ), x + d = S b → d < fuel → czf Z Z' → (p + 1 < C b / 4 → ∀ k, k < S b → Z'.1 18 (p + 1) k = oi (uR' M P (S b) b (C b / 4) out (p + 1) k)) → (∀ k, k < x → Z'.1 18 p k = oi (uR' M P (S b) b (C b / 4) out p k)) → ((x4 = 0 ∧ pNo (uR' M P (S b) b (C b / 4) out p) x) ∨ (x4 = 1 ∧ ¬ pNo (uR' M P (S b) b (C b / 4) out p) x)) → ∃ (v : Int32) (Z'' : CZ), lf6 fX2_countFewest_6 fuel b (nI p) out x4 (nI x) Z' = some (v, Z'') ∧ czf Z Z'' ∧ Z''.1 16 = Z'.1 16 ∧ (∀ q, q ≠ p → Z''.1 18 q = Z'.1 18 q) ∧ (∀ k, k < S b → Z''.1 18 p k = oi (uR' M P (S b) b (C b / 4) out p k)) ∧ ((v = 0 ∧ pNo (uR' M P (S b) b (C b / 4) out p) (S b)) ∨ (v = 1 ∧ ¬ pNo (uR' M P (S b) b (C b / 4) out p) (S b)))
  | _, _, 0, _, _, _, hf, _, _, _, _ => absurd hf (by omega)
  | 0, x, fuel + 1, x4, Z', hx, _, hz, hn, hr, hi => by
    have hS := h.nS hb
    have h' := hz.uRR h
    have ex : x = S b := by omega
    rw [ex] at hr hi ⊢
    refine ⟨x4, Z', ?_, hz, rfl, fun _ _ => rfl, hr, hi⟩
    rw [lf6_s]
    unfold fX2_countFewest_6
    rw [cLv10 hb, gdt, cLv3 (by omega), gdt, (h'.ls4 hb).size (by omega), cl1_s, if_pos (nI_le (by omega) (by omega))]
    unfold fX2_countFewest_154
    rw [gdb (by
      rcases hi with ⟨q, _⟩ | ⟨q, _⟩
      · exact Or.inl q
      · exact Or.inr q)]
  | d + 1, x, fuel + 1, x4, Z', hx, hf, hz, hn, hr, hi => by
    have hS := h.nS hb
    have hC := (h.nC hb).1
    have h' := hz.uRR h
    have hxS : x < S b := by omega
    have hp6 : p < 6 := by omega
    obtain ⟨p1, p2, p3, p4⟩ := h'.2.2.2.2.2.2.1.2.1 b x hb hxS
    obtain ⟨l1, l2, l3⟩ := h'.ly hb hxS
    have kn := (h'.2.2.2.2.2.2.2.2.1 b x p hb hxS hp6).1
    -- the state with NONE written
    have z10 : czf Z (cuI Z' 18 p (upd (Z'.1 18 p) x (-1))) := ⟨hz.1, fun k k1 k2 => by
      rw [show (cuI Z' 18 p (upd (Z'.1 18 p) x (-1))).1 k = Z'.1 k from funext fun i => cuI_n (fun q => k1 q.1), hz.2 k k1 k2]⟩
    have h10 := z10.uRR h
    have goOn : ∀ (y : Int32) (t4 : Int32), y = oi (uR' M P (S b) b (C b / 4) out p x) → ((t4 = 0 ∧ pNo (uR' M P (S b) b (C b / 4) out p) (x + 1)) ∨ (t4 = 1 ∧ ¬ pNo (uR' M P (S b) b (C b / 4) out p) (x + 1))) → ∀ Zn : CZ, Zn = cuI Z' 18 p (upd (Z'.1 18 p) x y) → lf6 fX2_countFewest_6 (fuel + 1) b (nI p) out x4 (nI x) Z' = lf6 fX2_countFewest_6 fuel b (nI p) out t4 (nI (x + 1)) Zn → ∃ (v : Int32) (Z'' : CZ), lf6 fX2_countFewest_6 (fuel + 1) b (nI p) out x4 (nI x) Z' = some (v, Z'') ∧ czf Z Z'' ∧ Z''.1 16 = Z'.1 16 ∧ (∀ q, q ≠ p → Z''.1 18 q = Z'.1 18 q) ∧ (∀ k, k < S b → Z''.1 18 p k = oi (uR' M P (S b) b (C b / 4) out p k)) ∧ ((v = 0 ∧ pNo (uR' M P (S b) b (C b / 4) out p) (S b)) ∨ (v = 1 ∧ ¬ pNo (uR' M P (S b) b (C b / 4) out p) (S b))) := by
      intro y t4 hy ht Zn eZ e
      have zn : czf Z Zn := by
        rw [eZ]
        exact ⟨hz.1, fun k k1 k2 => by
          rw [show (cuI Z' 18 p (upd (Z'.1 18 p) x y)).1 k = Z'.1 k from funext fun i => cuI_n (fun q => k1 q.1), hz.2 k k1 k2]⟩
      have e16 : Zn.1 16 = Z'.1 16 := by
        rw [eZ]
        rfl
      have e18 : ∀ q, q ≠ p → Zn.1 18 q = Z'.1 18 q := fun q hq => by
        rw [eZ, cuI_n (fun z => hq z.2)]
      have e18p : Zn.1 18 p = upd (Z'.1 18 p) x y := by
        rw [eZ, cuI_s]
      obtain ⟨v, Z'', a1, a2, a3, a4, a5, a6⟩ := c_count_l h hb hp hnx d (x + 1) fuel t4 Zn (by omega) (by omega) zn (fun hq k hk => by rw [e18 (p + 1) (by omega)]; exact hn hq k hk) (fun k hk => by
        rw [e18p]
        by_cases ek : k = x
        · rw [ek, pk_us]
          exact hy
        · rw [pk_un ek]
          exact hr k (by omega)) ht
      exact ⟨v, Z'', by rw [e]; exact a1, a2, a3.trans e16, fun q hq => (a4 q hq).trans (e18 q hq), a5, a6⟩
    have noAdd : uR' M P (S b) b (C b / 4) out p x = none → ((x4 = 0 ∧ pNo (uR' M P (S b) b (C b / 4) out p) (x + 1)) ∨ (x4 = 1 ∧ ¬ pNo (uR' M P (S b) b (C b / 4) out p) (x + 1))) := fun e => by
      rcases hi with ⟨i1, i2⟩ | ⟨i1, i2⟩
      · refine Or.inl ⟨i1, fun k hk => ?_⟩
        by_cases ek : k = x
        · rw [ek, e]
        · exact i2 k (by omega)
      · exact Or.inr ⟨i1, fun q => i2 (fun k hk => q k (by omega))⟩
    have yesAdd : ∀ w, uR' M P (S b) b (C b / 4) out p x = some w → (((1 : Int32) = 0 ∧ pNo (uR' M P (S b) b (C b / 4) out p) (x + 1)) ∨ ((1 : Int32) = 1 ∧ ¬ pNo (uR' M P (S b) b (C b / 4) out p) (x + 1))) := fun w e => Or.inr ⟨rfl, fun q => by
      have := q x (by omega)
      rw [e] at this
      cases this⟩
    have e148 : ∀ (v4 : Int32) (Z1 : CZ), fX2_countFewest_148 (lf6 fX2_countFewest_6 fuel) b (nI p) out v4 (nI x) Z1 = lf6 fX2_countFewest_6 fuel b (nI p) out v4 (nI (x + 1)) Z1 := fun v4 Z1 => by
      show lf6 fX2_countFewest_6 fuel b (nI p) out v4 (nI x + 1) Z1 = _
      rw [u_a1]
    have e6 : ∀ r, (if nI x = out then lf6 fX2_countFewest_6 fuel b (nI p) out x4 (nI (x + 1)) (cuI Z' 18 p (upd (Z'.1 18 p) x (-1))) else (if M 19 (6 * (8 * b + x) + p) = 1 then cl1 (fX2_bestSeat b (nI (p + 1)) (nI x) (cuI Z' 18 p (upd (Z'.1 18 p) x (-1)))) (fun v16 => (if v16 = (-1 : Int32) then fX2_countFewest_124 (lf6 fX2_countFewest_6 fuel) b (nI p) out (nI x) (nI (lyo M P b x)) (0 : Int32) (cuI Z' 18 p (upd (Z'.1 18 p) x (-1))) else gd (gin (nI (p + 1)) 6) (gd (gin v16 8) ((if v16 = nI x then fX2_countFewest_118 (lf6 fX2_countFewest_6 fuel) b (nI p) out (nI x) (nI (lyo M P b x)) (1 : Int32) (nI (p + 1)) b (Z'.1 18 (p + 1) (Int32.toNatClampNeg v16)) (cuI Z' 18 p (upd (Z'.1 18 p) x (-1))) else fX2_countFewest_118 (lf6 fX2_countFewest_6 fuel) b (nI p) out (nI x) (nI (lyo M P b x)) (0 : Int32) (nI (p + 1)) b (Z'.1 18 (p + 1) (Int32.toNatClampNeg v16)) (cuI Z' 18 p (upd (Z'.1 18 p) x (-1)))))))) else lf6 fX2_countFewest_6 fuel b (nI p) out x4 (nI (x + 1)) (cuI Z' 18 p (upd (Z'.1 18 p) x (-1))))) = r → lf6 fX2_countFewest_6 (fuel + 1) b (nI p) out x4 (nI x) Z' = r := fun r hr => by
      have d6 : ∀ v16 : Int32, (cuI Z' 18 p (upd (Z'.1 18 p) x (-1))).1 18 (nI (p + 1)).toNatClampNeg v16.toNatClampNeg = Z'.1 18 (p + 1) v16.toNatClampNeg := fun v16 => by rw [nIc (by omega), cuI_n (fun q => by omega)]
      rw [lf6_s]
      rw [show fX2_countFewest_6 (lf6 fX2_countFewest_6 fuel) b (nI p) out x4 (nI x) Z' = gd (cLv Z'.2.2 10 b) (gd (cLv Z'.2.2 3 (b + 4)) (cl1 (fJx4a65c_size_8abf5 (b + 4) Z') (fun v3 => (if v3 ≤ nI x then fX2_countFewest_154 x4 Z' else cl1 (fJx4a65c_get_915e3 (b + 4) (nI x) Z') (fun q5 => gd (cLv Z'.2.2 13 q5) (gd (gin (nI p) 6) (gd (gin (nI x) 8) (bnd (cuI Z' 18 (Int32.toNatClampNeg (nI p)) (upd (Z'.1 18 (Int32.toNatClampNeg (nI p))) (Int32.toNatClampNeg (nI x)) (-1 : Int32))) (fun Z10 => (if nI x = out then fX2_countFewest_148 (lf6 fX2_countFewest_6 fuel) b (nI p) out x4 (nI x) Z10 else gd (gin (nI p) 6) ((if (Z10.1 14 q5 (Int32.toNatClampNeg (nI p))) = (1 : Int32) then cl1 (Z10.2.1 13 q5 0) (fun q12 => gd (cLv Z10.2.2 9 q12) (bnd (Z10.1 9 q12 1) (fun v15 => cl1 (fX2_bestSeat b (nI p + (1 : Int32)) (nI x) Z10) (fun v16 => (if v16 = (-1 : Int32) then fX2_countFewest_124 (lf6 fX2_countFewest_6 fuel) b (nI p) out (nI x) v15 (0 : Int32) Z10 else gd (gin (nI p + (1 : Int32)) 6) (gd (gin v16 8) ((if v16 = nI x then fX2_countFewest_118 (lf6 fX2_countFewest_6 fuel) b (nI p) out (nI x) v15 (1 : Int32) (nI p + (1 : Int32)) b (Z10.1 18 (Int32.toNatClampNeg (nI p + (1 : Int32))) (Int32.toNatClampNeg v16)) Z10 else fX2_countFewest_118 (lf6 fX2_countFewest_6 fuel) b (nI p) out (nI x) v15 (0 : Int32) (nI p + (1 : Int32)) b (Z10.1 18 (Int32.toNatClampNeg (nI p + (1 : Int32))) (Int32.toNatClampNeg v16)) Z10)))))))) else fX2_countFewest_148 (lf6 fX2_countFewest_6 fuel) b (nI p) out x4 (nI x) Z10)))))))))))) from rfl]
      rw [cLv10 hb, gdt, cLv3 (by omega), gdt, (h'.ls4 hb).size (by omega), cl1_s, if_neg (nI_ge hxS (by omega)), (h'.ls4 hb).get (by omega) hxS, cl1_s, cLv13 p1, gdt, gdn hp6 (by omega), gdn (by omega) (by omega), bnd_e, nIc (by omega), nIc (by omega), gdn hp6 (by omega)]
      rw [show (cuI Z' 18 p (upd (Z'.1 18 p) x (-1))).1 14 (E b x) p = M 19 (6 * (8 * b + x) + p) from kn, show (cuI Z' 18 p (upd (Z'.1 18 p) x (-1))).2.1 13 (E b x) 0 = some (P b x) from p3, cl1_s, show cLv (cuI Z' 18 p (upd (Z'.1 18 p) x (-1))).2.2 9 (P b x) = true from cLv9 p2, gdt, show (cuI Z' 18 p (upd (Z'.1 18 p) x (-1))).1 9 (P b x) 1 = nI (lyo M P b x) from l2, bnd_e, u_a1]
      simp only [e148, d6]
      exact hr
    by_cases ho : nI x = out
    · have eN : uR' M P (S b) b (C b / 4) out p x = none := by
        by_cases hl : p + 1 < C b / 4
        · rw [uR_step hl, if_neg (fun q => q.2 ho)]
        · rw [show p = C b / 4 - 1 by omega, uR_last (by omega), if_neg (fun q => q.2 ho)]
      exact goOn (-1) x4 (by rw [eN]; rfl) (noAdd eN) _ rfl (e6 _ (by rw [if_pos ho]))
    · by_cases hk : M 19 (6 * (8 * b + x) + p) = 1
      · have e124 : ∀ (w : Nat), fX2_countFewest_124 (lf6 fX2_countFewest_6 fuel) b (nI p) out (nI x) (nI (lyo M P b x)) (nI w) (cuI Z' 18 p (upd (Z'.1 18 p) x (-1))) = lf6 fX2_countFewest_6 fuel b (nI p) out 1 (nI (x + 1)) (cuI Z' 18 p (upd (Z'.1 18 p) x (nI (uins M b p (lyo M P b x) + w)))) := fun w => by
          unfold fX2_countFewest_124
          rw [gdn hp6 (by omega), c_inside h10 rfl hb hp6 l3, cl1_s, gdn (by omega) (by omega), bnd_e, nIc (by omega), nIc (by omega), e148, nI_add, cuI_s]
          congr 1
          refine Prod.ext (funext fun k => funext fun i => ?_) rfl
          show (if k = 18 ∧ i = p then upd (upd (Z'.1 18 p) x (-1)) x (nI (uins M b p (lyo M P b x) + w)) else if k = 18 ∧ i = p then _ else Z'.1 k i) = (if k = 18 ∧ i = p then upd (Z'.1 18 p) x (nI (uins M b p (lyo M P b x) + w)) else Z'.1 k i)
          by_cases hki : k = 18 ∧ i = p
          · rw [if_pos hki, if_pos hki]
            funext j
            by_cases hj : j = x
            · rw [hj, pk_us, pk_us]
            · rw [pk_un hj, pk_un hj, pk_un hj]
          · rw [if_neg hki, if_neg hki, if_neg hki]
        by_cases hl : p + 1 < C b / 4
        · have hrow : ∀ k, k < S b → (cuI Z' 18 p (upd (Z'.1 18 p) x (-1))).1 18 (p + 1) k = oi (uR' M P (S b) b (C b / 4) out (p + 1) k) := fun k hk => by
            rw [cuI_n (fun q => by omega)]
            exact hn hl k hk
          obtain ⟨v16, q1, q2⟩ := c_best h10 hb hl _ hrow (fun k w hk hw => uR_le2 h hb (by omega) hl hk hw) (nI x)
          rcases q2 with ⟨_, q3⟩ | ⟨k0, v0, q3, q4⟩
          · exact absurd q3 (hnx hl)
          · have k0S := q4.1
            obtain ⟨w, w1, w2⟩ := q4.2.1
            have eR : uR' M P (S b) b (C b / 4) out p x = some (uins M b p (lyo M P b x) + v0) := by
              rw [uR_step hl, if_pos ⟨hk, ho⟩, bv_s q4]
              rfl
            have e118 : ∀ t : Int32, ((k0 = x ∧ t = 1) ∨ (¬ k0 = x ∧ t = 0)) → fX2_countFewest_118 (lf6 fX2_countFewest_6 fuel) b (nI p) out (nI x) (nI (lyo M P b x)) t (nI (p + 1)) b (nI w) (cuI Z' 18 p (upd (Z'.1 18 p) x (-1))) = lf6 fX2_countFewest_6 fuel b (nI p) out 1 (nI (x + 1)) (cuI Z' 18 p (upd (Z'.1 18 p) x (nI (uins M b p (lyo M P b x) + v0)))) := fun t ht => by
              unfold fX2_countFewest_118
              rw [c_into h10 rfl hb (show p + 1 < 6 by omega) hxS (k0 = x) ht, cl1_s, nI_add]
              rw [show w + uto M P b (p + 1) x (k0 = x) = v0 from by
                rw [w2]
                congr 1
                unfold uf
                by_cases hkx : k0 = x
                · rw [uto_t (by omega) hkx, uto_t (by omega) (by rw [hkx]), hkx]
                · rw [uto_f (by omega) hkx, uto_f (by omega) (by rw [nIe (by omega) (by omega)]; exact hkx)]]
              exact e124 v0
            have e18 : Z'.1 18 (p + 1) k0 = nI w := by
              rw [hn hl k0 k0S, w1]
              rfl
            refine goOn (nI (uins M b p (lyo M P b x) + v0)) 1 (by rw [eR]; rfl) (yesAdd _ eR) _ rfl (e6 _ ?_)
            rw [if_neg ho, if_pos hk, q1, cl1_s, q3, if_neg (by rw [nIm1 (by omega)]; exact id), gdn (by omega) (by omega), gdn (by omega) (by omega), nIc (by omega), e18]
            by_cases hkx : k0 = x
            · rw [if_pos (by rw [hkx])]
              exact e118 1 (Or.inl ⟨hkx, rfl⟩)
            · rw [if_neg (by rw [nIe (by omega) (by omega)]; exact hkx)]
              exact e118 0 (Or.inr ⟨hkx, rfl⟩)
        · have eR : uR' M P (S b) b (C b / 4) out p x = some (uins M b p (lyo M P b x)) := by
            have := uR_last (M := M) (P := P) (s := S b) (b := b) (out := out) (ph := C b / 4) (by omega) x
            rw [show C b / 4 - 1 = p by omega] at this
            rw [this, if_pos ⟨hk, ho⟩]
          refine goOn (nI (uins M b p (lyo M P b x))) 1 (by rw [eR]; rfl) (yesAdd _ eR) _ rfl (e6 _ ?_)
          rw [if_neg ho, if_pos hk, c_best_end h10 hb (by omega) (by omega), cl1_s, if_pos (by decide)]
          exact e124 0
      · have eN : uR' M P (S b) b (C b / 4) out p x = none := by
          by_cases hl : p + 1 < C b / 4
          · rw [uR_step hl, if_neg (fun q => hk q.1)]
          · have := uR_last (M := M) (P := P) (s := S b) (b := b) (out := out) (ph := C b / 4) (by omega) x
            rw [show C b / 4 - 1 = p by omega] at this
            rw [this, if_neg (fun q => hk q.1)]
        exact goOn (-1) x4 (by rw [eN]; rfl) (noAdd eN) _ rfl (e6 _ (by rw [if_neg ho, if_neg hk]))
end URPC

