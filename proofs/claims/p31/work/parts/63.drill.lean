/-! PURE PART. drill. -/
/-- what a seat knows behind a drill, by what it knew, what the seats beside it knew, and whether its player is in two bands -/
def ulr (v lo hi : Int32) (two : Bool) : Int32 := if v = 2 then (if lo = 1 ∧ hi = 1 then 1 else 2) else if v = 1 then 1 else if (if lo = 0 then hi else lo) = 1 ∧ two = true then 2 else if lo = 0 then hi else lo
theorem ulr_or {v lo hi : Int32} {two : Bool} (hv : v = 0 ∨ v = 1 ∨ v = 2) (hlo : lo = 0 ∨ lo = 1 ∨ lo = 2) (hhi : hi = 0 ∨ hi = 1 ∨ hi = 2) : ulr v lo hi two = 0 ∨ ulr v lo hi two = 1 ∨ ulr v lo hi two = 2 := by
  unfold ulr
  rcases hv with rfl | rfl | rfl
  · rw [if_neg (by decide), if_neg (by decide)]
    generalize ht : (if lo = 0 then hi else lo) = x
    have hx : x = 0 ∨ x = 1 ∨ x = 2 := by
      rw [← ht]
      split
      · exact hhi
      · exact hlo
    split
    · exact Or.inr (Or.inr rfl)
    · exact hx
  · rw [if_neg (by decide), if_pos (by decide)]
    exact Or.inr (Or.inl rfl)
  · rw [if_pos (by decide)]
    split
    · exact Or.inr (Or.inl rfl)
    · exact Or.inr (Or.inr rfl)
section URDR
variable {n : Nat} {Z : CZ} {M : MT} {S C : Nat → Nat} {E P : Nat → Nat → Nat}
/-- what the seat k of b knows of the phrase j -/
def ukb (m19 : Nat → Int32) (b j k : Nat) : Int32 := m19 (6 * (8 * b + k) + j)
def ulw (m19 : Nat → Int32) (b j k : Nat) : Int32 := if k = 0 then 0 else ukb m19 b j (k - 1)
def uhg (m19 : Nat → Int32) (s b j k : Nat) : Int32 := if k + 1 < s then ukb m19 b j (k + 1) else 0
def uLK (m19 : Nat → Int32) (S : Nat → Nat) (P : Nat → Nat → Nat) (b j k : Nat) : Int32 := ulr (ukb m19 b j k) (ulw m19 b j k) (uhg m19 (S b) b j k) (decide (ucnt S P (P b k) = 2))
theorem c_learn (h : uRR n Z M S C E P) {b j k : Nat} (hb : b < 4) (hj : j < 6) (hk : k < S b) {Z' : CZ} (h2 : Z'.2 = Z.2) (h9 : Z'.1 9 = Z.1 9) (lo hi : Int32) : fX5_learn (E b k) (nI j) lo hi Z' = some (ulr (Z'.1 14 (E b k) j) lo hi (decide (ucnt S P (P b k) = 2))) := by
  obtain ⟨p1, p2, p3, p4⟩ := h.2.2.2.2.2.2.1.2.1 b k hb hk
  obtain ⟨c1, c2⟩ := h.2.2.2.2.2.2.2.1 _ p2
  have l13 : cLv Z'.2.2 13 (E b k) = true := by
    rw [h2]
    exact cLv13 p1
  have l9 : cLv Z'.2.2 9 (P b k) = true := by
    rw [h2]
    exact cLv9 p2
  have q13 : Z'.2.1 13 (E b k) 0 = some (P b k) := by
    rw [h2]
    exact p3
  have e47 : ∀ t : Int32, fX5_learn_47 Z' (E b k) t = some (if t = 1 ∧ decide (ucnt S P (P b k) = 2) = true then 2 else t) := fun t => by
    unfold fX5_learn_47
    rw [l13, gdt, q13, cl1_s, l9, gdt, h9, c1]
    by_cases ht : t = 1
    · rw [if_pos ht]
      by_cases hc : ucnt S P (P b k) = 2
      · rw [hc, if_neg (by decide), if_pos ⟨ht, by decide⟩]
        rfl
      · rw [if_pos (show nI (ucnt S P (P b k)) < (2 : Int32) from nI_lt (b := 2) (by omega) (by omega)), if_neg (fun q => hc (of_decide_eq_true q.2))]
        rfl
    · rw [if_neg ht, if_neg (fun q => ht q.1)]
      rfl
  unfold fX5_learn
  rw [l13, gdt, gdn hj (by omega), nIc (by omega), bnd_e]
  unfold ulr
  by_cases hv2 : Z'.1 14 (E b k) j = 2
  · rw [if_pos hv2, if_pos hv2]
    by_cases hl : lo = 1
    · rw [if_pos hl]
      by_cases hh : hi = 1
      · rw [if_pos hh, if_pos ⟨hl, hh⟩]
        rfl
      · rw [if_neg hh, if_neg (fun q => hh q.2)]
        rfl
    · rw [if_neg hl, if_neg (fun q => hl q.1)]
      rfl
  · rw [if_neg hv2, if_neg hv2]
    by_cases hv1 : Z'.1 14 (E b k) j = 1
    · rw [if_pos hv1, if_pos hv1]
    · rw [if_neg hv1, if_neg hv1]
      by_cases hl : lo = 0
      · rw [if_pos hl, e47]
        simp only [if_pos hl]
      · rw [if_neg hl, e47]
        simp only [if_neg hl]
theorem c_lp (h : uRR n Z M S C E P) {b j : Nat} (hb : b < 4) (hj : j < 6) : ∀ (d x fuel : Nat) (Z' : CZ), x + d = S b → d < fuel → Z'.2 = Z.2 → (∀ k, k ≠ 14 → Z'.1 k = Z.1 k) → (∀ k, x ≤ k → k < S b → Z'.1 14 (E b k) j = ukb (M 19) b j k) → ∃ Z'' : CZ, lf5 fX0_learnPhrase_4 fuel b (nI j) (ulw (M 19) b j x) (nI x) Z' = some Z'' ∧ Z''.2 = Z.2 ∧ (∀ k, k ≠ 14 → Z''.1 k = Z.1 k) ∧ (∀ k, x ≤ k → k < S b → Z''.1 14 (E b k) j = uLK (M 19) S P b j k) ∧ ∀ e f, ¬ (f = j ∧ ∃ k, x ≤ k ∧ k < S b ∧ e = E b k) → Z''.1 14 e f = Z'.1 14 e f
  | _, _, 0, _, _, hf, _, _, _ => absurd hf (by omega)
  | 0, x, fuel + 1, Z', hx, _, h2, h1, _ => by
    have hS := h.nS hb
    refine ⟨Z', ?_, h2, h1, fun k q1 q2 => by omega, fun _ _ _ => rfl⟩
    rw [lf5_s]
    unfold fX0_learnPhrase_4
    rw [cLv10 hb, gdt, cLv3 (by omega), gdt, ((h.ls4 hb).of (h1 3 (by omega)) h2).size (by omega), cl1_s, if_pos (nI_le (by omega) (by omega))]
    rfl
  | d + 1, x, fuel + 1, Z', hx, hf, h2, h1, h14 => by
    have hS := h.nS hb
    have hls := (h.ls4 hb).of (h1 3 (by omega)) h2
    obtain ⟨p1, p2, p3, p4⟩ := h.2.2.2.2.2.2.1.2.1 b x hb (by omega)
    have l13 : ∀ k, k < S b → cLv Z'.2.2 13 (E b k) = true := fun k hk => by
      rw [h2]
      exact cLv13 (h.2.2.2.2.2.2.1.2.1 b k hb hk).1
    have inj : ∀ k, x + 1 ≤ k → k < S b → E b k ≠ E b x := fun k q1 q2 e => by
      have := (h.inj b k b x hb q2 hb (by omega) e).2
      omega
    have e0 := h14 x (by omega) (by omega)
    have e63 : fX0_learnPhrase_63 (lf5 fX0_learnPhrase_4 fuel) b (nI j) (ulw (M 19) b j x) (nI x) (E b x) (uhg (M 19) (S b) b j x) Z' = lf5 fX0_learnPhrase_4 fuel b (nI j) (ukb (M 19) b j x) (nI (x + 1)) (cuI Z' 14 (E b x) (upd (Z'.1 14 (E b x)) j (uLK (M 19) S P b j x))) := by
      unfold fX0_learnPhrase_63
      rw [l13 x (by omega), gdt, gdn hj (by omega), bnd_e, c_learn h hb hj (by omega) h2 (h1 9 (by omega)), cl1_s, gdn hj (by omega), bnd_e, bnd_e, nIc (by omega), e0, u_a1]
      rfl
    have step : lf5 fX0_learnPhrase_4 (fuel + 1) b (nI j) (ulw (M 19) b j x) (nI x) Z' = lf5 fX0_learnPhrase_4 fuel b (nI j) (ulw (M 19) b j (x + 1)) (nI (x + 1)) (cuI Z' 14 (E b x) (upd (Z'.1 14 (E b x)) j (uLK (M 19) S P b j x))) := by
      have ew : ulw (M 19) b j (x + 1) = ukb (M 19) b j x := if_neg (by omega)
      rw [lf5_s, ew, ← e63]
      unfold fX0_learnPhrase_4
      rw [cLv10 hb, gdt, cLv3 (by omega), gdt, hls.size (by omega), cl1_s, if_neg (nI_ge (by omega) (by omega)), hls.get (by omega) (show x < S b by omega), cl1_s, l13 x (by omega), gdt, cl1_s, u_a1]
      unfold uhg
      by_cases hh : x + 1 < S b
      · rw [if_neg (nI_ge (by omega) (by omega)), hls.get (by omega) hh, cl1_s, l13 _ hh, gdt, gdn hj (by omega), nIc (by omega), h14 _ (by omega) hh, if_pos hh]
      · rw [if_pos (nI_le (by omega) (by omega)), if_neg hh]
    have w0 : (cuI Z' 14 (E b x) (upd (Z'.1 14 (E b x)) j (uLK (M 19) S P b j x))).1 14 (E b x) j = uLK (M 19) S P b j x := by rw [cuI_s, pk_us]
    have w1 : ∀ e f, ¬ (e = E b x ∧ f = j) → (cuI Z' 14 (E b x) (upd (Z'.1 14 (E b x)) j (uLK (M 19) S P b j x))).1 14 e f = Z'.1 14 e f := fun e f q => by
      by_cases he : e = E b x
      · subst he
        rw [cuI_s]
        exact pk_un (fun q2 => q ⟨rfl, q2⟩)
      · rw [cuI_n (fun q2 => he q2.2)]
    have w2 : ∀ k, k ≠ 14 → (cuI Z' 14 (E b x) (upd (Z'.1 14 (E b x)) j (uLK (M 19) S P b j x))).1 k = Z'.1 k := fun k hk => funext fun i => by rw [cuI_n (fun q => hk q.1)]
    obtain ⟨Z'', z1, z2, z3, z4, z5⟩ := c_lp h hb hj d (x + 1) fuel (cuI Z' 14 (E b x) (upd (Z'.1 14 (E b x)) j (uLK (M 19) S P b j x))) (by omega) (by omega) h2 (fun k hk => by rw [w2 k hk, h1 k hk]) (fun k q1 q2 => by rw [w1 _ _ (fun q => inj k q1 q2 q.1)]; exact h14 k (by omega) q2)
    refine ⟨Z'', by rw [step]; exact z1, z2, z3, fun k q1 q2 => ?_, fun e f q => ?_⟩
    · by_cases hk : k = x
      · subst hk
        rw [z5 _ _ (fun q => by
          obtain ⟨_, k', q3, q4, q5⟩ := q
          exact inj k' q3 q4 q5.symm), w0]
      · exact z4 k (by omega) q2
    · rw [z5 e f (fun q6 => q ⟨q6.1, by
        obtain ⟨_, k', q3, q4, q5⟩ := q6
        exact ⟨k', by omega, q4, q5⟩⟩), w1 e f (fun q6 => q ⟨q6.2, x, by omega, by omega, q6.1⟩)]
/-- how many of the first x are 1 -/
def uct (f : Nat → Int32) : Nat → Nat
  | 0 => 0
  | x + 1 => uct f x + (if f x = 1 then 1 else 0)
theorem uct_le (f : Nat → Int32) : ∀ x, uct f x ≤ x
  | 0 => Nat.le_refl 0
  | x + 1 => by
    have := uct_le f x
    show uct f x + (if f x = 1 then 1 else 0) ≤ x + 1
    split <;> omega
theorem uct_congr {f g : Nat → Int32} : ∀ x, (∀ k, k < x → f k = g k) → uct f x = uct g x
  | 0, _ => rfl
  | x + 1, h => by
    show uct f x + (if f x = 1 then 1 else 0) = uct g x + (if g x = 1 then 1 else 0)
    rw [uct_congr x (fun k hk => h k (by omega)), h x (by omega)]
theorem c_cr (h : uRR n Z M S C E P) {b j : Nat} (hb : b < 4) (hj : j < 6) {Z' : CZ} (h2 : Z'.2 = Z.2) (h3 : Z'.1 3 = Z.1 3) {f : Nat → Int32} (h14 : ∀ k, k < S b → Z'.1 14 (E b k) j = f k) : ∀ (d x fuel : Nat), x + d = S b → d < fuel → lf4 (fX0_countRight_4 Z') fuel b (nI j) (nI (uct f x)) (nI x) = some (nI (uct f (S b)))
  | _, _, 0, _, hf => absurd hf (by omega)
  | 0, x, fuel + 1, hx, _ => by
    have hS := h.nS hb
    rw [lf4_s]
    unfold fX0_countRight_4
    rw [cLv10 hb, gdt, cLv3 (by omega), gdt, ((h.ls4 hb).of h3 h2).size (by omega), cl1_s, if_pos (nI_le (by omega) (by omega)), show x = S b by omega]
    rfl
  | d + 1, x, fuel + 1, hx, hf => by
    have hS := h.nS hb
    have hls := (h.ls4 hb).of h3 h2
    have l13 : cLv Z'.2.2 13 (E b x) = true := by
      rw [h2]
      exact cLv13 (h.2.2.2.2.2.2.1.2.1 b x hb (by omega)).1
    rw [lf4_s]
    unfold fX0_countRight_4
    rw [cLv10 hb, gdt, cLv3 (by omega), gdt, hls.size (by omega), cl1_s, if_neg (nI_ge (by omega) (by omega)), hls.get (by omega) (show x < S b by omega), cl1_s, l13, gdt, gdn hj (by omega), nIc (by omega), h14 x (by omega)]
    have ih := c_cr h hb hj h2 h3 h14 d (x + 1) fuel (by omega) (by omega)
    by_cases hv : f x = 1
    · rw [if_pos hv, bnd_e, u_a1]
      unfold fX0_countRight_38
      rw [bnd_e, u_a1]
      rw [show uct f (x + 1) = uct f x + 1 from by show uct f x + (if f x = 1 then 1 else 0) = _; rw [if_pos hv]] at ih
      exact ih
    · rw [if_neg hv]
      unfold fX0_countRight_38
      rw [bnd_e, u_a1]
      rw [show uct f (x + 1) = uct f x from by show uct f x + (if f x = 1 then 1 else 0) = _; rw [if_neg hv]; rfl] at ih
      exact ih
/-! the pans worn -/
def ulow (q : Nat) (T : Nat → Int32) : Nat → Int32 := fun j => if 4 * q ≤ j ∧ j < 4 * q + 4 then T j - 1 else T j
def uwr (o : Nat → Option Nat) (T : Nat → Int32) : Nat → Nat → Int32
  | 0 => T
  | x + 1 => op2 (o x) (uwr o T x) (fun q => ulow q (uwr o T x))
def zlo (q f : Nat) (Z' : CZ) : CZ := cuI Z' 6 q (upd (Z'.1 6 q) f (Z'.1 6 q f - 1))
theorem c_low_s {q f : Nat} {Z' : CZ} (hf : f < 4) (hq : cLv Z'.2.2 5 q = true) (fuel : Nat) : lf3 fX1_lowerTones_2 (fuel + 1) q (nI f) Z' = lf3 fX1_lowerTones_2 fuel q (nI (f + 1)) (zlo q f Z') := by
  rw [lf3_s]
  unfold fX1_lowerTones_2
  rw [if_neg (show ¬ ((4 : Int32) ≤ nI f) from nI_ge (b := 4) (by omega) (by omega)), hq, gdt, gdn hf (by omega), gdn hf (by omega), bnd_e, bnd_e, nIc (by omega), u_a1]
  rfl
theorem zlo_k {q f : Nat} {Z' : CZ} {k : Nat} (hk : k ≠ 6) : (zlo q f Z').1 k = Z'.1 k := funext fun i => cuI_n (fun q => hk q.1)
theorem zlo_6 {q f : Nat} {Z' : CZ} (i g : Nat) : (zlo q f Z').1 6 i g = if i = q ∧ g = f then Z'.1 6 i g - 1 else Z'.1 6 i g := by
  unfold zlo
  by_cases hi : i = q
  · subst hi
    rw [cuI_s]
    by_cases hg : g = f
    · subst hg
      rw [pk_us, if_pos ⟨rfl, rfl⟩]
    · rw [pk_un hg, if_neg (fun q => hg q.2)]
  · rw [cuI_n (fun q => hi q.2), if_neg (fun q => hi q.1)]
theorem c_low {q : Nat} {Z' : CZ} (hq : cLv Z'.2.2 5 q = true) : ∃ Z'' : CZ, fX1_lowerTones q Z' = some Z'' ∧ Z''.2 = Z'.2 ∧ (∀ k, k ≠ 6 → Z''.1 k = Z'.1 k) ∧ (∀ i f, f < 4 → Z''.1 6 i f = if i = q then Z'.1 6 i f - 1 else Z'.1 6 i f) := by
  refine ⟨zlo q 3 (zlo q 2 (zlo q 1 (zlo q 0 Z'))), ?_, rfl, fun k hk => by rw [zlo_k hk, zlo_k hk, zlo_k hk, zlo_k hk], fun i f hf => ?_⟩
  · unfold fX1_lowerTones
    show lf3 fX1_lowerTones_2 (95 + 1 + 1 + 1 + 1 + 1) q (nI 0) Z' = _
    rw [c_low_s (Z' := Z') (f := 0) (by omega) hq, c_low_s (Z' := zlo q 0 Z') (f := 1) (by omega) hq, c_low_s (Z' := zlo q 1 (zlo q 0 Z')) (f := 2) (by omega) hq, c_low_s (Z' := zlo q 2 (zlo q 1 (zlo q 0 Z'))) (f := 3) (by omega) hq, lf3_s]
    unfold fX1_lowerTones_2
    rw [if_pos (by decide)]
    rfl
  · rw [zlo_6, zlo_6, zlo_6, zlo_6]
    by_cases hi : i = q
    · have : f = 0 ∨ f = 1 ∨ f = 2 ∨ f = 3 := by omega
      rcases this with rfl | rfl | rfl | rfl <;> simp [hi]
    · simp [hi]
theorem c_wear (h : uRR n Z M S C E P) {b : Nat} (hb : b < 4) {T : Nat → Int32} : ∀ (d x fuel : Nat) (Z' : CZ), x + d = S b → d < fuel → Z'.2 = Z.2 → Z'.1 3 = Z.1 3 → (∀ i f, i < Z.2.2 0 → f < 4 → Z'.1 6 i f = uwr (fun k => Z.2.1 9 (P b k) 2) T x (4 * i + f)) → ∃ Z'' : CZ, lf3 fX0_wearPans_2 fuel b (nI x) Z' = some Z'' ∧ Z''.2 = Z.2 ∧ (∀ k, k ≠ 6 → Z''.1 k = Z'.1 k) ∧ ∀ i f, i < Z.2.2 0 → f < 4 → Z''.1 6 i f = uwr (fun k => Z.2.1 9 (P b k) 2) T (S b) (4 * i + f)
  | _, _, 0, _, _, hf, _, _, _ => absurd hf (by omega)
  | 0, x, fuel + 1, Z', hx, _, h2, h3, h6 => by
    have hS := h.nS hb
    refine ⟨Z', ?_, h2, fun _ _ => rfl, by rw [show S b = x by omega]; exact h6⟩
    rw [lf3_s]
    unfold fX0_wearPans_2
    rw [cLv10 hb, gdt, cLv3 (by omega), gdt, ((h.ls4 hb).of h3 h2).size (by omega), cl1_s, if_pos (nI_le (by omega) (by omega))]
    rfl
  | d + 1, x, fuel + 1, Z', hx, hf, h2, h3, h6 => by
    have hS := h.nS hb
    have hls := (h.ls4 hb).of h3 h2
    obtain ⟨p1, p2, p3, p4⟩ := h.2.2.2.2.2.2.1.2.1 b x hb (by omega)
    have l13 : cLv Z'.2.2 13 (E b x) = true := by
      rw [h2]
      exact cLv13 p1
    have l9 : cLv Z'.2.2 9 (P b x) = true := by
      rw [h2]
      exact cLv9 p2
    have q13 : Z'.2.1 13 (E b x) 0 = some (P b x) := by
      rw [h2]
      exact p3
    have q9 : Z'.2.1 9 (P b x) 2 = Z.2.1 9 (P b x) 2 := by rw [h2]
    have step : lf3 fX0_wearPans_2 (fuel + 1) b (nI x) Z' = op2 (Z.2.1 9 (P b x) 2) (lf3 fX0_wearPans_2 fuel b (nI (x + 1)) Z') (fun q11 => gd (cLv Z'.2.2 5 q11) (cl1 (fX1_lowerTones q11 Z') (fun Z14 => lf3 fX0_wearPans_2 fuel b (nI (x + 1)) Z14))) := by
      rw [lf3_s]
      unfold fX0_wearPans_2
      rw [cLv10 hb, gdt, cLv3 (by omega), gdt, hls.size (by omega), cl1_s, if_neg (nI_ge (by omega) (by omega)), hls.get (by omega) (show x < S b by omega), cl1_s, l13, gdt, q13, cl1_s, l9, gdt, q9]
      unfold fX0_wearPans_39
      simp only [bnd_e, u_a1]
    rcases ho : Z.2.1 9 (P b x) 2 with _ | q
    · obtain ⟨Z'', z1, z2, z3, z4⟩ := c_wear h hb d (x + 1) fuel Z' (by omega) (by omega) h2 h3 (fun i f hi hf => by
        rw [h6 i f hi hf]
        show _ = op2 (Z.2.1 9 (P b x) 2) (uwr (fun k => Z.2.1 9 (P b k) 2) T x) (fun q => ulow q (uwr (fun k => Z.2.1 9 (P b k) 2) T x)) (4 * i + f)
        rw [ho]
        rfl)
      exact ⟨Z'', by rw [step, ho, op2_n]; exact z1, z2, z3, z4⟩
    · have hq : q < Z.2.2 0 := (h.2.2.2.2.2.1.1 _ p2).2 q ho
      have l5 : cLv Z'.2.2 5 q = true := by
        rw [h2]
        exact cLv5 hq
      obtain ⟨Zl, y1, y2, y3, y4⟩ := c_low l5
      obtain ⟨Z'', z1, z2, z3, z4⟩ := c_wear h hb d (x + 1) fuel Zl (by omega) (by omega) (y2.trans h2) (by rw [y3 3 (by omega), h3]) (fun i f hi hf => by
        rw [y4 i f hf, h6 i f hi hf]
        show _ = op2 (Z.2.1 9 (P b x) 2) (uwr (fun k => Z.2.1 9 (P b k) 2) T x) (fun q => ulow q (uwr (fun k => Z.2.1 9 (P b k) 2) T x)) (4 * i + f)
        rw [ho, op2_s]
        show _ = if 4 * q ≤ 4 * i + f ∧ 4 * i + f < 4 * q + 4 then uwr (fun k => Z.2.1 9 (P b k) 2) T x (4 * i + f) - 1 else uwr (fun k => Z.2.1 9 (P b k) 2) T x (4 * i + f)
        by_cases hi : i = q
        · rw [if_pos hi, if_pos (by omega)]
        · rw [if_neg hi, if_neg (by omega)])
      exact ⟨Z'', by rw [step, ho, op2_s, l5, gdt, y1, cl1_s]; exact z1, z2, fun k hk => by rw [z3 k hk, y3 k hk], z4⟩
/-! the model's drill -/
def ulf (q f : Nat) (T : Nat → Int32) : Nat → Int32 := fun j => if 4 * q ≤ j ∧ j < 4 * q + f then T j - 1 else T j
theorem uwr_bd {o : Nat → Option Nat} {T : Nat → Int32} {j : Nat} (hT : -1000000 ≤ (T j).toInt ∧ (T j).toInt ≤ 1000000) : ∀ x, x ≤ 8 → (T j).toInt - x ≤ (uwr o T x j).toInt ∧ (uwr o T x j).toInt ≤ (T j).toInt
  | 0, _ => by
    show (T j).toInt - ((0 : Nat) : Int) ≤ (T j).toInt ∧ (T j).toInt ≤ (T j).toInt
    omega
  | x + 1, hx => by
    have ih := uwr_bd (o := o) hT x (by omega)
    show (T j).toInt - ((x + 1 : Nat) : Int) ≤ (op2 (o x) (uwr o T x) (fun q => ulow q (uwr o T x)) j).toInt ∧ (op2 (o x) (uwr o T x) (fun q => ulow q (uwr o T x)) j).toInt ≤ (T j).toInt
    rcases o x with _ | q
    · rw [op2_n]
      omega
    · rw [op2_s]
      show (T j).toInt - ((x + 1 : Nat) : Int) ≤ (if 4 * q ≤ j ∧ j < 4 * q + 4 then uwr o T x j - 1 else uwr o T x j).toInt ∧ (if 4 * q ≤ j ∧ j < 4 * q + 4 then uwr o T x j - 1 else uwr o T x j).toInt ≤ (T j).toInt
      split
      · have e : (uwr o T x j - 1).toInt = (uwr o T x j).toInt - 1 := tI_sub (by rw [show (1 : Int32).toInt = 1 from by decide]; omega) (by rw [show (1 : Int32).toInt = 1 from by decide]; omega)
        rw [e]
        omega
      · omega
end URDR

