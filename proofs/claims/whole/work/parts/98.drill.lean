/-! PURE PART. drill. -/
/-- what a seat knows behind a drill, by what it knew, what the seats beside it knew, and whether its player is in two bands -/
def ulr (v lo hi : Int32) (two : Bool) : Int32 := if v = 2 then (if lo = 1 ∧ hi = 1 then 1 else 2) else if v = 1 then 1 else if (if lo = 0 then hi else lo) = 1 ∧ two = true then 2 else if lo = 0 then hi else lo
theorem ulr_or {v lo hi : Int32} {two : Bool} (hv : v = 0 ∨ v = 1 ∨ v = 2) (hlo : lo = 0 ∨ lo = 1 ∨ lo = 2) (hhi : hi = 0 ∨ hi = 1 ∨ hi = 2) : ulr v lo hi two = 0 ∨ ulr v lo hi two = 1 ∨ ulr v lo hi two = 2 := by
  unfold ulr
  rcases hv with rfl | rfl | rfl
  · rw [if_neg (by decide), if_neg (by decide)]
    generalize ht : (if lo = 0 then hi else lo) = x
    have hx : x = 0 ∨ x = 1 ∨ x = 2 := by
      rw [← ht]
      split
      · exact hhi
      · exact hlo
    split
    · exact Or.inr (Or.inr rfl)
    · exact hx
  · rw [if_neg (by decide), if_pos (by decide)]
    exact Or.inr (Or.inl rfl)
  · rw [if_pos (by decide)]
    split
    · exact Or.inr (Or.inl rfl)
    · exact Or.inr (Or.inr rfl)
section URDR
variable {n : Nat} {Z : CZ} {M : MT} {S C : Nat → Nat} {E P : Nat → Nat → Nat}
/-- what the seat k of b knows of the phrase j -/
def ukb (m19 : Nat → Int32) (b j k : Nat) : Int32 := m19 (6 * (8 * b + k) + j)
def ulw (m19 : Nat → Int32) (b j k : Nat) : Int32 := if k = 0 then 0 else ukb m19 b j (k - 1)
def uhg (m19 : Nat → Int32) (s b j k : Nat) : Int32 := if k + 1 < s then ukb m19 b j (k + 1) else 0
def uLK (m19 : Nat → Int32) (S : Nat → Nat) (P : Nat → Nat → Nat) (b j k : Nat) : Int32 := ulr (ukb m19 b j k) (ulw m19 b j k) (uhg m19 (S b) b j k) (decide (ucnt S P (P b k) = 2))
theorem c_learn (h : uRR n Z M S C E P) {b j k : Nat} (hb : b < 4) (hj : j < 6) (hk : k < S b) {Z' : CZ} (h2 : Z'.2 = Z.2) (h9 : Z'.1 9 = Z.1 9) (lo hi : Int32) : fX5_learn (E b k) (nI j) lo hi Z' = some (ulr (Z'.1 14 (E b k) j) lo hi (decide (ucnt S P (P b k) = 2))) := by
  obtain ⟨p1, p2, p3, p4⟩ := h.2.2.2.2.2.2.1.2.1 b k hb hk
  obtain ⟨c1, c2⟩ := h.2.2.2.2.2.2.2.1 _ p2
  have l13 : cLv Z'.2.2 13 (E b k) = true := by
    rw [h2]
    exact cLv13 p1
  have l9 : cLv Z'.2.2 9 (P b k) = true := by
    rw [h2]
    exact cLv9 p2
  have q13 : Z'.2.1 13 (E b k) 0 = some (P b k) := by
    rw [h2]
    exact p3
  have e47 : ∀ t : Int32, fX5_learn_47 Z' (E b k) t = some (if t = 1 ∧ decide (ucnt S P (P b k) = 2) = true then 2 else t) := fun t => by
    unfold fX5_learn_47
    rw [l13, gdt, q13, cl1_s, l9, gdt, h9, c1]
    by_cases ht : t = 1
    · rw [if_pos ht]
      by_cases hc : ucnt S P (P b k) = 2
      · rw [hc, if_neg (by decide), if_pos ⟨ht, by decide⟩]
        rfl
      · rw [if_pos (show nI (ucnt S P (P b k)) < (2 : Int32) from nI_lt (b := 2) (by omega) (by omega)), if_neg (fun q => hc (of_decide_eq_true q.2))]
        rfl
    · rw [if_neg ht, if_neg (fun q => ht q.1)]
      rfl
  unfold fX5_learn
  rw [l13, gdt, gdn hj (by omega), nIc (by omega), bnd_e]
  unfold ulr
  by_cases hv2 : Z'.1 14 (E b k) j = 2
  · rw [if_pos hv2, if_pos hv2]
    by_cases hl : lo = 1
    · rw [if_pos hl]
      by_cases hh : hi = 1
      · rw [if_pos hh, if_pos ⟨hl, hh⟩]
        rfl
      · rw [if_neg hh, if_neg (fun q => hh q.2)]
        rfl
    · rw [if_neg hl, if_neg (fun q => hl q.1)]
      rfl
  · rw [if_neg hv2, if_neg hv2]
    by_cases hv1 : Z'.1 14 (E b k) j = 1
    · rw [if_pos hv1, if_pos hv1]
    · rw [if_neg hv1, if_neg hv1]
      by_cases hl : lo = 0
      · rw [if_pos hl, e47]
        simp only [if_pos hl]
      · rw [if_neg hl, e47]
        simp only [if_neg hl]
theorem c_lp (h : uRR n Z M S C E P) {b j : Nat} (hb : b < 4) (hj : j < 6) : ∀ (d x fuel : Nat) (Z' : CZ), x + d = S b → d < fuel → Z'.2 = Z.2 → (∀ k, k ≠ 14 → Z'.1 k = Z.1 k) → (∀ k, x ≤ k → k < S b → Z'.1 14 (E b k) j = ukb (M 19) b j k) → ∃ Z'' : CZ, lf5 fX0_learnPhrase_4 fuel b (nI j) (ulw (M 19) b j x) (nI x) Z' = some Z'' ∧ Z''.2 = Z.2 ∧ (∀ k, k ≠ 14 → Z''.1 k = Z.1 k) ∧ (∀ k, x ≤ k → k < S b → Z''.1 14 (E b k) j = uLK (M 19) S P b j k) ∧ ∀ e f, ¬ (f = j ∧ ∃ k, x ≤ k ∧ k < S b ∧ e = E b k) → Z''.1 14 e f = Z'.1 14 e f
  | _, _, 0, _, _, hf, _, _, _ => absurd hf (by omega)
  | 0, x, fuel + 1, Z', hx, _, h2, h1, _ => by
    have hS := h.nS hb
    refine ⟨Z', ?_, h2, h1, fun k q1 q2 => by omega, fun _ _ _ => rfl⟩
    rw [lf5_s]
    unfold fX0_learnPhrase_4
    rw [cLv10 hb, gdt, cLv3 (by omega), gdt, ((h.ls4 hb).of (h1 3 (by omega)) h2).size (by omega), cl1_s, if_pos (nI_le (by omega) (by omega))]
    rfl
  | d + 1, x, fuel + 1, Z', hx, hf, h2, h1, h14 => by
    have hS := h.nS hb
    have hls := (h.ls4 hb).of (h1 3 (by omega)) h2
    obtain ⟨p1, p2, p3, p4⟩ := h.2.2.2.2.2.2.1.2.1 b x hb (by omega)
    have l13 : ∀ k, k < S b → cLv Z'.2.2 13 (E b k) = true := fun k hk => by
      rw [h2]
      exact cLv13 (h.2.2.2.2.2.2.1.2.1 b k hb hk).1
    have inj : ∀ k, x + 1 ≤ k → k < S b → E b k ≠ E b x := fun k q1 q2 e => by
      have := (h.inj b k b x hb q2 hb (by omega) e).2
      omega
    have e0 := h14 x (by omega) (by omega)
    have e63 : fX0_learnPhrase_63 (lf5 fX0_learnPhrase_4 fuel) b (nI j) (ulw (M 19) b j x) (nI x) (E b x) (uhg (M 19) (S b) b j x) Z' = lf5 fX0_learnPhrase_4 fuel b (nI j) (ukb (M 19) b j x) (nI (x + 1)) (cuI Z' 14 (E b x) (upd (Z'.1 14 (E b x)) j (uLK (M 19) S P b j x))) := by
      unfold fX0_learnPhrase_63
      rw [l13 x (by omega), gdt, gdn hj (by omega), bnd_e, c_learn h hb hj (by omega) h2 (h1 9 (by omega)), cl1_s, gdn hj (by omega), bnd_e, bnd_e, nIc (by omega), e0, u_a1]
      rfl
    have step : lf5 fX0_learnPhrase_4 (fuel + 1) b (nI j) (ulw (M 19) b j x) (nI x) Z' = lf5 fX0_learnPhrase_4 fuel b (nI j) (ulw (M 19) b j (x + 1)) (nI (x + 1)) (cuI Z' 14 (E b x) (upd (Z'.1 14 (E b x)) j (uLK (M 19) S P b j x))) := by
      have ew : ulw (M 19) b j (x + 1) = ukb (M 19) b j x := if_neg (by omega)
      rw [lf5_s, ew, ← e63]
      unfold fX0_learnPhrase_4
      rw [cLv10 hb, gdt, cLv3 (by omega), gdt, hls.size (by omega), cl1_s, if_neg (nI_ge (by omega) (by omega)), hls.get (by omega) (show x < S b by omega), cl1_s, l13 x (by omega), gdt, cl1_s, u_a1]
      unfold uhg
      by_cases hh : x + 1 < S b
      · rw [if_neg (nI_ge (by omega) (by omega)), hls.get (by omega) hh, cl1_s, l13 _ hh, gdt, gdn hj (by omega), nIc (by omega), h14 _ (by omega) hh, if_pos hh]
      · rw [if_pos (nI_le (by omega) (by omega)), if_neg hh]
    have w0 : (cuI Z' 14 (E b x) (upd (Z'.1 14 (E b x)) j (uLK (M 19) S P b j x))).1 14 (E b x) j = uLK (M 19) S P b j x := by rw [cuI_s, pk_us]
    have w1 : ∀ e f, ¬ (e = E b x ∧ f = j) → (cuI Z' 14 (E b x) (upd (Z'.1 14 (E b x)) j (uLK (M 19) S P b j x))).1 14 e f = Z'.1 14 e f := fun e f q => by
      by_cases he : e = E b x
      · subst he
        rw [cuI_s]
        exact pk_un (fun q2 => q ⟨rfl, q2⟩)
      · rw [cuI_n (fun q2 => he q2.2)]
    have w2 : ∀ k, k ≠ 14 → (cuI Z' 14 (E b x) (upd (Z'.1 14 (E b x)) j (uLK (M 19) S P b j x))).1 k = Z'.1 k := fun k hk => funext fun i => by rw [cuI_n (fun q => hk q.1)]
    obtain ⟨Z'', z1, z2, z3, z4, z5⟩ := c_lp h hb hj d (x + 1) fuel (cuI Z' 14 (E b x) (upd (Z'.1 14 (E b x)) j (uLK (M 19) S P b j x))) (by omega) (by omega) h2 (fun k hk => by rw [w2 k hk, h1 k hk]) (fun k q1 q2 => by rw [w1 _ _ (fun q => inj k q1 q2 q.1)]; exact h14 k (by omega) q2)
    refine ⟨Z'', by rw [step]; exact z1, z2, z3, fun k q1 q2 => ?_, fun e f q => ?_⟩
    · by_cases hk : k = x
      · subst hk
        rw [z5 _ _ (fun q => by
          obtain ⟨_, k', q3, q4, q5⟩ := q
          exact inj k' q3 q4 q5.symm), w0]
      · exact z4 k (by omega) q2
    · rw [z5 e f (fun q6 => q ⟨q6.1, by
        obtain ⟨_, k', q3, q4, q5⟩ := q6
        exact ⟨k', by omega, q4, q5⟩⟩), w1 e f (fun q6 => q ⟨q6.2, x, by omega, by omega, q6.1⟩)]
/-- how many of the first x are 1 -/
def uct (f : Nat → Int32) : Nat → Nat
  | 0 => 0
  | x + 1 => uct f x + (if f x = 1 then 1 else 0)
theorem uct_le (f : Nat → Int32) : ∀ x, uct f x ≤ x
  | 0 => Nat.le_refl 0
  | x + 1 => by
    have := uct_le f x
    show uct f x + (if f x = 1 then 1 else 0) ≤ x + 1
    split <;> omega
theorem uct_congr {f g : Nat → Int32} : ∀ x, (∀ k, k < x → f k = g k) → uct f x = uct g x
  | 0, _ => rfl
  | x + 1, h => by
    show uct f x + (if f x = 1 then 1 else 0) = uct g x + (if g x = 1 then 1 else 0)
    rw [uct_congr x (fun k hk => h k (by omega)), h x (by omega)]
theorem c_cr (h : uRR n Z M S C E P) {b j : Nat} (hb : b < 4) (hj : j < 6) {Z' : CZ} (h2 : Z'.2 = Z.2) (h3 : Z'.1 3 = Z.1 3) {f : Nat → Int32} (h14 : ∀ k, k < S b → Z'.1 14 (E b k) j = f k) : ∀ (d x fuel : Nat), x + d = S b → d < fuel → lf4 (fX0_countRight_4 Z') fuel b (nI j) (nI (uct f x)) (nI x) = some (nI (uct f (S b)))
  | _, _, 0, _, hf => absurd hf (by omega)
  | 0, x, fuel + 1, hx, _ => by
    have hS := h.nS hb
    rw [lf4_s]
    unfold fX0_countRight_4
    rw [cLv10 hb, gdt, cLv3 (by omega), gdt, ((h.ls4 hb).of h3 h2).size (by omega), cl1_s, if_pos (nI_le (by omega) (by omega)), show x = S b by omega]
    rfl
  | d + 1, x, fuel + 1, hx, hf => by
    have hS := h.nS hb
    have hls := (h.ls4 hb).of h3 h2
    have l13 : cLv Z'.2.2 13 (E b x) = true := by
      rw [h2]
      exact cLv13 (h.2.2.2.2.2.2.1.2.1 b x hb (by omega)).1
    rw [lf4_s]
    unfold fX0_countRight_4
    rw [cLv10 hb, gdt, cLv3 (by omega), gdt, hls.size (by omega), cl1_s, if_neg (nI_ge (by omega) (by omega)), hls.get (by omega) (show x < S b by omega), cl1_s, l13, gdt, gdn hj (by omega), nIc (by omega), h14 x (by omega)]
    have ih := c_cr h hb hj h2 h3 h14 d (x + 1) fuel (by omega) (by omega)
    by_cases hv : f x = 1
    · rw [if_pos hv, bnd_e, u_a1]
      unfold fX0_countRight_38
      rw [bnd_e, u_a1]
      rw [show uct f (x + 1) = uct f x + 1 from by show uct f x + (if f x = 1 then 1 else 0) = _; rw [if_pos hv]] at ih
      exact ih
    · rw [if_neg hv]
      unfold fX0_countRight_38
      rw [bnd_e, u_a1]
      rw [show uct f (x + 1) = uct f x from by show uct f x + (if f x = 1 then 1 else 0) = _; rw [if_neg hv]; rfl] at ih
      exact ih
/-! the pans worn -/
def ulow (q : Nat) (T : Nat → Int32) : Nat → Int32 := fun j => if 4 * q ≤ j ∧ j < 4 * q + 4 then T j - 1 else T j
def uwr (o : Nat → Option Nat) (T : Nat → Int32) : Nat → Nat → Int32
  | 0 => T
  | x + 1 => op2 (o x) (uwr o T x) (fun q => ulow q (uwr o T x))
def zlo (q f : Nat) (Z' : CZ) : CZ := cuI Z' 6 q (upd (Z'.1 6 q) f (Z'.1 6 q f - 1))
theorem c_low_s {q f : Nat} {Z' : CZ} (hf : f < 4) (hq : cLv Z'.2.2 5 q = true) (fuel : Nat) : lf3 fX1_lowerTones_2 (fuel + 1) q (nI f) Z' = lf3 fX1_lowerTones_2 fuel q (nI (f + 1)) (zlo q f Z') := by
  rw [lf3_s]
  unfold fX1_lowerTones_2
  rw [if_neg (show ¬ ((4 : Int32) ≤ nI f) from nI_ge (b := 4) (by omega) (by omega)), hq, gdt, gdn hf (by omega), gdn hf (by omega), bnd_e, bnd_e, nIc (by omega), u_a1]
  rfl
theorem zlo_k {q f : Nat} {Z' : CZ} {k : Nat} (hk : k ≠ 6) : (zlo q f Z').1 k = Z'.1 k := funext fun i => cuI_n (fun q => hk q.1)
theorem zlo_6 {q f : Nat} {Z' : CZ} (i g : Nat) : (zlo q f Z').1 6 i g = if i = q ∧ g = f then Z'.1 6 i g - 1 else Z'.1 6 i g := by
  unfold zlo
  by_cases hi : i = q
  · subst hi
    rw [cuI_s]
    by_cases hg : g = f
    · subst hg
      rw [pk_us, if_pos ⟨rfl, rfl⟩]
    · rw [pk_un hg, if_neg (fun q => hg q.2)]
  · rw [cuI_n (fun q => hi q.2), if_neg (fun q => hi q.1)]
theorem c_low {q : Nat} {Z' : CZ} (hq : cLv Z'.2.2 5 q = true) : ∃ Z'' : CZ, fX1_lowerTones q Z' = some Z'' ∧ Z''.2 = Z'.2 ∧ (∀ k, k ≠ 6 → Z''.1 k = Z'.1 k) ∧ (∀ i f, f < 4 → Z''.1 6 i f = if i = q then Z'.1 6 i f - 1 else Z'.1 6 i f) := by
  refine ⟨zlo q 3 (zlo q 2 (zlo q 1 (zlo q 0 Z'))), ?_, rfl, fun k hk => by rw [zlo_k hk, zlo_k hk, zlo_k hk, zlo_k hk], fun i f hf => ?_⟩
  · unfold fX1_lowerTones
    show lf3 fX1_lowerTones_2 (95 + 1 + 1 + 1 + 1 + 1) q (nI 0) Z' = _
    rw [c_low_s (Z' := Z') (f := 0) (by omega) hq, c_low_s (Z' := zlo q 0 Z') (f := 1) (by omega) hq, c_low_s (Z' := zlo q 1 (zlo q 0 Z')) (f := 2) (by omega) hq, c_low_s (Z' := zlo q 2 (zlo q 1 (zlo q 0 Z'))) (f := 3) (by omega) hq, lf3_s]
    unfold fX1_lowerTones_2
    rw [if_pos (by decide)]
    rfl
  · rw [zlo_6, zlo_6, zlo_6, zlo_6]
    by_cases hi : i = q
    · have : f = 0 ∨ f = 1 ∨ f = 2 ∨ f = 3 := by omega
      rcases this with rfl | rfl | rfl | rfl <;> simp [hi]
    · simp [hi]
theorem c_wear (h : uRR n Z M S C E P) {b : Nat} (hb : b < 4) {T : Nat → Int32} : ∀ (d x fuel : Nat) (Z' : CZ), x + d = S b → d < fuel → Z'.2 = Z.2 → Z'.1 3 = Z.1 3 → (∀ i f, i < Z.2.2 0 → f < 4 → Z'.1 6 i f = uwr (fun k => Z.2.1 9 (P b k) 2) T x (4 * i + f)) → ∃ Z'' : CZ, lf3 fX0_wearPans_2 fuel b (nI x) Z' = some Z'' ∧ Z''.2 = Z.2 ∧ (∀ k, k ≠ 6 → Z''.1 k = Z'.1 k) ∧ ∀ i f, i < Z.2.2 0 → f < 4 → Z''.1 6 i f = uwr (fun k => Z.2.1 9 (P b k) 2) T (S b) (4 * i + f)
  | _, _, 0, _, _, hf, _, _, _ => absurd hf (by omega)
  | 0, x, fuel + 1, Z', hx, _, h2, h3, h6 => by
    have hS := h.nS hb
    refine ⟨Z', ?_, h2, fun _ _ => rfl, by rw [show S b = x by omega]; exact h6⟩
    rw [lf3_s]
    unfold fX0_wearPans_2
    rw [cLv10 hb, gdt, cLv3 (by omega), gdt, ((h.ls4 hb).of h3 h2).size (by omega), cl1_s, if_pos (nI_le (by omega) (by omega))]
    rfl
  | d + 1, x, fuel + 1, Z', hx, hf, h2, h3, h6 => by
    have hS := h.nS hb
    have hls := (h.ls4 hb).of h3 h2
    obtain ⟨p1, p2, p3, p4⟩ := h.2.2.2.2.2.2.1.2.1 b x hb (by omega)
    have l13 : cLv Z'.2.2 13 (E b x) = true := by
      rw [h2]
      exact cLv13 p1
    have l9 : cLv Z'.2.2 9 (P b x) = true := by
      rw [h2]
      exact cLv9 p2
    have q13 : Z'.2.1 13 (E b x) 0 = some (P b x) := by
      rw [h2]
      exact p3
    have q9 : Z'.2.1 9 (P b x) 2 = Z.2.1 9 (P b x) 2 := by rw [h2]
    have step : lf3 fX0_wearPans_2 (fuel + 1) b (nI x) Z' = op2 (Z.2.1 9 (P b x) 2) (lf3 fX0_wearPans_2 fuel b (nI (x + 1)) Z') (fun q11 => gd (cLv Z'.2.2 5 q11) (cl1 (fX1_lowerTones q11 Z') (fun Z14 => lf3 fX0_wearPans_2 fuel b (nI (x + 1)) Z14))) := by
      rw [lf3_s]
      unfold fX0_wearPans_2
      rw [cLv10 hb, gdt, cLv3 (by omega), gdt, hls.size (by omega), cl1_s, if_neg (nI_ge (by omega) (by omega)), hls.get (by omega) (show x < S b by omega), cl1_s, l13, gdt, q13, cl1_s, l9, gdt, q9]
      unfold fX0_wearPans_39
      simp only [bnd_e, u_a1]
    rcases ho : Z.2.1 9 (P b x) 2 with _ | q
    · obtain ⟨Z'', z1, z2, z3, z4⟩ := c_wear h hb d (x + 1) fuel Z' (by omega) (by omega) h2 h3 (fun i f hi hf => by
        rw [h6 i f hi hf]
        show _ = op2 (Z.2.1 9 (P b x) 2) (uwr (fun k => Z.2.1 9 (P b k) 2) T x) (fun q => ulow q (uwr (fun k => Z.2.1 9 (P b k) 2) T x)) (4 * i + f)
        rw [ho]
        rfl)
      exact ⟨Z'', by rw [step, ho, op2_n]; exact z1, z2, z3, z4⟩
    · have hq : q < Z.2.2 0 := (h.2.2.2.2.2.1.1 _ p2).2 q ho
      have l5 : cLv Z'.2.2 5 q = true := by
        rw [h2]
        exact cLv5 hq
      obtain ⟨Zl, y1, y2, y3, y4⟩ := c_low l5
      obtain ⟨Z'', z1, z2, z3, z4⟩ := c_wear h hb d (x + 1) fuel Zl (by omega) (by omega) (y2.trans h2) (by rw [y3 3 (by omega), h3]) (fun i f hi hf => by
        rw [y4 i f hf, h6 i f hi hf]
        show _ = op2 (Z.2.1 9 (P b x) 2) (uwr (fun k => Z.2.1 9 (P b k) 2) T x) (fun q => ulow q (uwr (fun k => Z.2.1 9 (P b k) 2) T x)) (4 * i + f)
        rw [ho, op2_s]
        show _ = if 4 * q ≤ 4 * i + f ∧ 4 * i + f < 4 * q + 4 then uwr (fun k => Z.2.1 9 (P b k) 2) T x (4 * i + f) - 1 else uwr (fun k => Z.2.1 9 (P b k) 2) T x (4 * i + f)
        by_cases hi : i = q
        · rw [if_pos hi, if_pos (by omega)]
        · rw [if_neg hi, if_neg (by omega)])
      exact ⟨Z'', by rw [step, ho, op2_s, l5, gdt, y1, cl1_s]; exact z1, z2, fun k hk => by rw [z3 k hk, y3 k hk], z4⟩
/-! the model's drill -/
def ulf (q f : Nat) (T : Nat → Int32) : Nat → Int32 := fun j => if 4 * q ≤ j ∧ j < 4 * q + f then T j - 1 else T j
theorem m_lows {K : Int32 → Int32 → Int32 → Int32 → MT → Option (Int32 × MT)} {b j c x : Int32} {q : Nat} (hq : q < 6) (M' : MT) : ∀ (d f fuel : Nat), f + d = 4 → d < fuel → lf7 (fX7_drill_176 K) fuel b j c x (nI q) (nI f) (va_up M' 4 (ulf q f (M' 4))) = K b j c (x + 1) (va_up M' 4 (ulow q (M' 4)))
  | _, _, 0, _, hf => absurd hf (by omega)
  | 0, f, fuel + 1, hx, _ => by
    rw [lf7_s]
    unfold fX7_drill_176
    rw [show f = 4 by omega, if_pos (by decide)]
    rfl
  | d + 1, f, fuel + 1, hx, hf => by
    rw [lf7_s]
    unfold fX7_drill_176
    rw [if_neg (show ¬ ((4 : Int32) ≤ nI f) from nI_ge (b := 4) (by omega) (by omega)), if_neg (by rw [nIm1 (by omega)]; exact id), u_l4, nI_add, gdn (by omega) (by omega), gdn (by omega) (by omega), nIc (by omega), bnd_e, bnd_e, u_a1, vu_s]
    have ih := m_lows (K := K) (b := b) (j := j) (c := c) (x := x) hq M' d (f + 1) fuel (by omega) (by omega)
    have e : va_up (va_up M' 4 (ulf q f (M' 4))) 4 (upd (ulf q f (M' 4)) (4 * q + f) (ulf q f (M' 4) (4 * q + f) - 1)) = va_up M' 4 (ulf q (f + 1) (M' 4)) := funext fun k => by
      by_cases hk : k = 4
      · subst hk
        rw [vu_s, vu_s]
        funext i
        by_cases hi : i = 4 * q + f
        · subst hi
          rw [pk_us]
          show (if 4 * q ≤ 4 * q + f ∧ 4 * q + f < 4 * q + f then M' 4 (4 * q + f) - 1 else M' 4 (4 * q + f)) - 1 = if 4 * q ≤ 4 * q + f ∧ 4 * q + f < 4 * q + (f + 1) then M' 4 (4 * q + f) - 1 else M' 4 (4 * q + f)
          rw [if_neg (by omega), if_pos (by omega)]
        · rw [pk_un hi]
          show (if 4 * q ≤ i ∧ i < 4 * q + f then M' 4 i - 1 else M' 4 i) = if 4 * q ≤ i ∧ i < 4 * q + (f + 1) then M' 4 i - 1 else M' 4 i
          by_cases hc : 4 * q ≤ i ∧ i < 4 * q + f
          · rw [if_pos hc, if_pos (by omega)]
          · rw [if_neg hc, if_neg (by omega)]
      · rw [vu_n hk, vu_n hk, vu_n hk]
    rw [e]
    exact ih
theorem m_knownBy_t (h : uRR n Z M S C E P) {b k j : Nat} (hb : b < 4) (hk : k < S b) (hj : j < 6) : fX7_knownBy (nI b) (nI k) (nI j) M = some (ukb (M 19) b j k) := by
  have hS := h.nS hb
  unfold fX7_knownBy
  rw [h.isSeat hb hk, cl1_s, if_neg (by decide), m_at, cl1_s, gdn (by omega) (by omega), nIc (by omega)]
  rfl
theorem m_knownBy_f (h : uRR n Z M S C E P) {b j : Nat} {a : Int32} (hb : b < 4) (ha : a < 0 ∨ nI (S b) ≤ a) : fX7_knownBy (nI b) a (nI j) M = some 0 := by
  unfold fX7_knownBy
  rw [h.isSeatF hb ha, cl1_s, if_pos (by decide)]
  rfl
theorem m_learns (h : uRR n Z M S C E P) {b k j : Nat} (hb : b < 4) (hk : k < S b) (hj : j < 6) : fX7_learns (nI b) (nI k) (nI j) M = some (uLK (M 19) S P b j k) := by
  have hS := h.nS hb
  have hnl := h.nl.1
  obtain ⟨p1, p2, p3, p4⟩ := h.2.2.2.2.2.2.1.2.1 b k hb hk
  have kv := (h.2.2.2.2.2.2.2.2.1 b k j hb hk hj).2
  have e1 : fX7_knownBy (nI b) (nI k - 1) (nI j) M = some (ulw (M 19) b j k) := by
    unfold ulw
    by_cases h0 : k = 0
    · subst h0
      rw [if_pos (by decide)]
      exact m_knownBy_f h hb (Or.inl (by decide))
    · rw [if_neg h0, u_s1 (by omega)]
      exact m_knownBy_t h hb (by omega) hj
  have e2 : fX7_knownBy (nI b) (nI k + 1) (nI j) M = some (uhg (M 19) (S b) b j k) := by
    unfold uhg
    rw [u_a1]
    by_cases h0 : k + 1 < S b
    · rw [if_pos h0]
      exact m_knownBy_t h hb h0 hj
    · rw [if_neg h0]
      exact m_knownBy_f h hb (Or.inr (nI_le (by omega) (by omega)))
  have e72 : ∀ t : Int32, fX7_learns_72 M (nI b) (nI k) t = some (if t = 1 ∧ decide (ucnt S P (P b k) = 2) = true then 2 else t) := fun t => by
    unfold fX7_learns_72
    by_cases ht : t = 1
    · rw [if_pos ht, u_l8, nI_add, gdn (by omega) (by omega), nIc (by omega), p4, m_bandsOf h p2, cl1_s]
      have c2 : ucnt S P (P b k) ≤ 4 := by
        have := uin_le S P 0 (P b k)
        have := uin_le S P 1 (P b k)
        have := uin_le S P 2 (P b k)
        have := uin_le S P 3 (P b k)
        unfold ucnt
        omega
      by_cases hc : ucnt S P (P b k) = 2
      · rw [hc, if_pos (by decide), if_pos ⟨ht, by decide⟩]
        rfl
      · rw [if_neg (show ¬ (nI (ucnt S P (P b k)) = (2 : Int32)) from fun q => hc ((nI_eq (b := 2) (by omega) (by omega)).mp q)), if_neg (fun q => hc (of_decide_eq_true q.2))]
        rfl
    · rw [if_neg ht, if_neg (fun q => ht q.1)]
      rfl
  unfold fX7_learns
  rw [m_knownBy_t h hb hk hj, cl1_s, e1, cl1_s, e2, cl1_s]
  unfold uLK ulr
  have kv' : ukb (M 19) b j k = 0 ∨ ukb (M 19) b j k = 1 ∨ ukb (M 19) b j k = 2 := kv
  generalize ukb (M 19) b j k = v at kv' ⊢
  generalize ulw (M 19) b j k = lo
  generalize uhg (M 19) (S b) b j k = hi
  rcases kv' with rfl | rfl | rfl
  · rw [if_pos (by decide), if_neg (show ¬ ((0 : Int32) = 2) by decide), if_neg (show ¬ ((0 : Int32) = 1) by decide)]
    by_cases hl : lo = 0
    · rw [if_pos hl, e72]
      simp only [if_pos hl]
    · rw [if_neg hl, e72]
      simp only [if_neg hl]
  · rw [if_neg (show ¬ ((1 : Int32) = 0) by decide), if_pos (by decide), if_neg (show ¬ ((1 : Int32) = 2) by decide), if_pos (by decide)]
    rfl
  · rw [if_neg (show ¬ ((2 : Int32) = 0) by decide), if_neg (show ¬ ((2 : Int32) = 1) by decide), if_pos (show (2 : Int32) = 2 from rfl)]
    by_cases hl : lo = 1
    · rw [if_pos hl]
      by_cases hh : hi = 1
      · rw [if_pos hh, if_pos ⟨hl, hh⟩]
        rfl
      · rw [if_neg hh, if_neg (fun q => hh q.2)]
        rfl
    · rw [if_neg hl, if_neg (fun q => hl q.1)]
      rfl
/-- the model's first loop: what each seat will know -/
theorem m_dr1 (h : uRR n Z M S C E P) {b j : Nat} (hb : b < 4) (hj : j < 6) : ∀ (d x fuel : Nat) (M' : MT), x + d = S b → d < fuel → (∀ k, k ≠ 20 → M' k = M k) → (∀ k, k < x → M' 20 k = uLK (M 19) S P b j k) → ∃ M'' : MT, lf4 fX7_drill_64 fuel (nI b) (nI j) (nI x) M' = fX7_drill_96 (nI b) (nI j) M'' ∧ (∀ k, k ≠ 20 → M'' k = M k) ∧ ∀ k, k < S b → M'' 20 k = uLK (M 19) S P b j k
  | _, _, 0, _, _, hf, _, _ => absurd hf (by omega)
  | 0, x, fuel + 1, M', hx, _, h1, h20 => by
    have hS := h.nS hb
    refine ⟨M', ?_, h1, by rw [show S b = x by omega]; exact h20⟩
    rw [lf4_s]
    unfold fX7_drill_64
    rw [gdn hb (by omega), nIc (by omega), h1 15 (by omega), hS.2, if_pos (nI_le (by omega) (by omega))]
  | d + 1, x, fuel + 1, M', hx, hf, h1, h20 => by
    have hS := h.nS hb
    have h' : uRR n Z M' S C E P := h.scr (fun k _ _ _ _ q _ _ => h1 k q)
    have step : lf4 fX7_drill_64 (fuel + 1) (nI b) (nI j) (nI x) M' = lf4 fX7_drill_64 fuel (nI b) (nI j) (nI (x + 1)) (va_up M' 20 (upd (M' 20) x (uLK (M 19) S P b j x))) := by
      rw [lf4_s]
      unfold fX7_drill_64
      rw [gdn hb (by omega), nIc (by omega), h1 15 (by omega), hS.2, if_neg (nI_ge (by omega) (by omega)), m_learns h' hb (by omega) hj, cl1_s, gdn (by omega) (by omega), bnd_e, bnd_e, nIc (by omega), u_a1, h1 19 (by omega)]
    obtain ⟨M'', z1, z2, z3⟩ := m_dr1 h hb hj d (x + 1) fuel (va_up M' 20 (upd (M' 20) x (uLK (M 19) S P b j x))) (by omega) (by omega) (fun k hk => by rw [vu_n hk, h1 k hk]) (fun k hk => by
      rw [vu_s]
      by_cases e : k = x
      · subst e
        rw [pk_us]
      · rw [pk_un e]
        exact h20 k (by omega))
    exact ⟨M'', by rw [step]; exact z1, z2, z3⟩
/-- the model's second loop -/
theorem m_dr2 (h : uRR n Z M S C E P) {b j : Nat} (hb : b < 4) (hj : j < 6) {f : Nat → Int32} (h20 : ∀ k, k < S b → M 20 k = f k) : ∀ (d x fuel : Nat) (M' : MT), x + d = S b → d < fuel → (∀ k, k ≠ 19 → k ≠ 4 → M' k = M k) → M' 4 = uwr (fun k => Z.2.1 9 (P b k) 2) (M 4) x → ∃ M'' : MT, lf5 fX7_drill_102 fuel (nI b) (nI j) (nI (uct f x)) (nI x) M' = some (nI (uct f (S b)), M'') ∧ (∀ k, k ≠ 19 → k ≠ 4 → M'' k = M k) ∧ M'' 4 = uwr (fun k => Z.2.1 9 (P b k) 2) (M 4) (S b) ∧ (∀ k, x ≤ k → k < S b → M'' 19 (6 * (8 * b + k) + j) = f k) ∧ ∀ i, ¬ (∃ k, x ≤ k ∧ k < S b ∧ i = 6 * (8 * b + k) + j) → M'' 19 i = M' 19 i
  | _, _, 0, _, _, hf, _, _ => absurd hf (by omega)
  | 0, x, fuel + 1, M', hx, _, h1, h4 => by
    have hS := h.nS hb
    refine ⟨M', ?_, h1, by rw [show S b = x by omega]; exact h4, fun k q1 q2 => by omega, fun _ _ => rfl⟩
    rw [lf5_s]
    unfold fX7_drill_102
    rw [gdn hb (by omega), nIc (by omega), h1 15 (by omega) (by omega), hS.2, if_pos (nI_le (by omega) (by omega)), show S b = x by omega]
    rfl
  | d + 1, x, fuel + 1, M', hx, hf, h1, h4 => by
    have hS := h.nS hb
    have hnl := h.nl.1
    have hnp := h.np.1
    obtain ⟨p1, p2, p3, p4⟩ := h.2.2.2.2.2.2.1.2.1 b x hb (by omega)
    obtain ⟨o1, o2⟩ := h.2.2.2.2.2.1.1 _ p2
    have e151 : ∀ (t : Int32) (c : Nat), nI (uct f x) + t = nI c → fX7_drill_151 (lf5 fX7_drill_102 fuel) (nI b) (nI j) (nI x) t (nI (uct f x)) (va_up M' 19 (upd (M' 19) (6 * (8 * b + x) + j) (f x))) = lf5 fX7_drill_102 fuel (nI b) (nI j) (nI c) (nI (x + 1)) (va_up (va_up M' 19 (upd (M' 19) (6 * (8 * b + x) + j) (f x))) 4 (uwr (fun k => Z.2.1 9 (P b k) 2) (M 4) (x + 1))) := fun t c ec => by
      have w4 : (va_up M' 19 (upd (M' 19) (6 * (8 * b + x) + j) (f x))) 4 = uwr (fun k => Z.2.1 9 (P b k) 2) (M 4) x := by rw [vu_n (by omega), h4]
      have w16 : (va_up M' 19 (upd (M' 19) (6 * (8 * b + x) + j) (f x))) 16 = M 16 := by rw [vu_n (by omega), h1 16 (by omega) (by omega)]
      have w12 : (va_up M' 19 (upd (M' 19) (6 * (8 * b + x) + j) (f x))) 12 = M 12 := by rw [vu_n (by omega), h1 12 (by omega) (by omega)]
      unfold fX7_drill_151
      rw [bnd_e, ec, u_l8, nI_add, gdn (by omega) (by omega), nIc (by omega), w16, p4, gdn (by omega) (by omega), nIc (by omega), bnd_e, w12, o1]
      have ex : uwr (fun k => Z.2.1 9 (P b k) 2) (M 4) (x + 1) = op2 (Z.2.1 9 (P b x) 2) (uwr (fun k => Z.2.1 9 (P b k) 2) (M 4) x) (fun q => ulow q (uwr (fun k => Z.2.1 9 (P b k) 2) (M 4) x)) := rfl
      rcases ho : Z.2.1 9 (P b x) 2 with _ | q
      · rw [ex, ho, op2_n, ← w4, oi_n]
        show lf7 (fX7_drill_176 (lf5 fX7_drill_102 fuel)) (99 + 1) (nI b) (nI j) (nI c) (nI x) (-1) 0 _ = _
        rw [lf7_s]
        unfold fX7_drill_176
        rw [if_neg (by decide), if_pos (by decide)]
        unfold fX7_drill_210
        rw [bnd_e, u_a1]
        congr 1
        funext k
        by_cases hk : k = 4
        · subst hk
          rw [vu_s]
        · rw [vu_n hk]
      · have hq := o2 q ho
        rw [ex, ho, op2_s, ← w4, oi_s]
        have := m_lows (K := lf5 fX7_drill_102 fuel) (b := nI b) (j := nI j) (c := nI c) (x := nI x) (q := q) (by omega) (va_up M' 19 (upd (M' 19) (6 * (8 * b + x) + j) (f x))) 4 0 100 (by omega) (by omega)
        rw [u_a1] at this
        rw [← this]
        congr 1
        funext k
        by_cases hk : k = 4
        · subst hk
          rw [vu_s]
          funext i
          show _ = if 4 * q ≤ i ∧ i < 4 * q + 0 then _ else _
          rw [if_neg (by omega)]
        · rw [vu_n hk]
    have step : lf5 fX7_drill_102 (fuel + 1) (nI b) (nI j) (nI (uct f x)) (nI x) M' = lf5 fX7_drill_102 fuel (nI b) (nI j) (nI (uct f (x + 1))) (nI (x + 1)) (va_up (va_up M' 19 (upd (M' 19) (6 * (8 * b + x) + j) (f x))) 4 (uwr (fun k => Z.2.1 9 (P b k) 2) (M 4) (x + 1))) := by
      rw [lf5_s]
      unfold fX7_drill_102
      rw [gdn hb (by omega), nIc (by omega), h1 15 (by omega) (by omega), hS.2, if_neg (nI_ge (by omega) (by omega)), m_at, cl1_s, gdn (by omega) (by omega), gdn (by omega) (by omega), bnd_e, gdn (by omega) (by omega), nIc (by omega), nIc (by omega)]
      rw [show M' 20 = M 20 from h1 20 (by omega) (by omega), show (va_up M' 19 (upd (M' 19) (6 * (8 * b + x) + j) (M 20 x))) 20 x = f x from by rw [vu_n (by omega), h1 20 (by omega) (by omega), h20 x (by omega)], h20 x (by omega)]
      by_cases hv : f x = 1
      · rw [if_pos hv]
        exact e151 1 _ (by rw [u_a1]; show _ = nI (uct f x + (if f x = 1 then 1 else 0)); rw [if_pos hv])
      · rw [if_neg hv]
        exact e151 0 _ (by rw [Int32.add_zero]; show _ = nI (uct f x + (if f x = 1 then 1 else 0)); rw [if_neg hv]; rfl)
    obtain ⟨M'', z1, z2, z3, z4, z5⟩ := m_dr2 h hb hj h20 d (x + 1) fuel (va_up (va_up M' 19 (upd (M' 19) (6 * (8 * b + x) + j) (f x))) 4 (uwr (fun k => Z.2.1 9 (P b k) 2) (M 4) (x + 1))) (by omega) (by omega) (fun k k1 k2 => by rw [vu_n k2, vu_n k1, h1 k k1 k2]) vu_s
    have w : ∀ i, (va_up (va_up M' 19 (upd (M' 19) (6 * (8 * b + x) + j) (f x))) 4 (uwr (fun k => Z.2.1 9 (P b k) 2) (M 4) (x + 1))) 19 i = upd (M' 19) (6 * (8 * b + x) + j) (f x) i := fun i => by rw [vu_n (by omega), vu_s]
    refine ⟨M'', by rw [step]; exact z1, z2, z3, fun k q1 q2 => ?_, fun i q => ?_⟩
    · by_cases hk : k = x
      · subst hk
        rw [z5 _ (fun q => by
          obtain ⟨k', q3, q4, q5⟩ := q
          omega), w, pk_us]
      · exact z4 k (by omega) q2
    · rw [z5 i (fun q6 => q (by
        obtain ⟨k', q3, q4, q5⟩ := q6
        exact ⟨k', by omega, q4, q5⟩)), w, pk_un (fun q6 => q ⟨x, by omega, by omega, q6⟩)]
theorem uwr_bd {o : Nat → Option Nat} {T : Nat → Int32} {j : Nat} (hT : -1000000 ≤ (T j).toInt ∧ (T j).toInt ≤ 1000000) : ∀ x, x ≤ 8 → (T j).toInt - x ≤ (uwr o T x j).toInt ∧ (uwr o T x j).toInt ≤ (T j).toInt
  | 0, _ => by
    show (T j).toInt - ((0 : Nat) : Int) ≤ (T j).toInt ∧ (T j).toInt ≤ (T j).toInt
    omega
  | x + 1, hx => by
    have ih := uwr_bd (o := o) hT x (by omega)
    show (T j).toInt - ((x + 1 : Nat) : Int) ≤ (op2 (o x) (uwr o T x) (fun q => ulow q (uwr o T x)) j).toInt ∧ (op2 (o x) (uwr o T x) (fun q => ulow q (uwr o T x)) j).toInt ≤ (T j).toInt
    rcases o x with _ | q
    · rw [op2_n]
      omega
    · rw [op2_s]
      show (T j).toInt - ((x + 1 : Nat) : Int) ≤ (if 4 * q ≤ j ∧ j < 4 * q + 4 then uwr o T x j - 1 else uwr o T x j).toInt ∧ (if 4 * q ≤ j ∧ j < 4 * q + 4 then uwr o T x j - 1 else uwr o T x j).toInt ≤ (T j).toInt
      split
      · have e : (uwr o T x j - 1).toInt = (uwr o T x j).toInt - 1 := tI_sub (by rw [show (1 : Int32).toInt = 1 from by decide]; omega) (by rw [show (1 : Int32).toInt = 1 from by decide]; omega)
        rw [e]
        omega
      · omega
theorem ok_drill (hn : n < 512) : st_drill (uR n) (uR (n + 1)) := by
  rintro Z M ⟨S, C, E, P, h⟩ a1 a2
  rcases uIx_or a1 (n := 4) (by omega) with ⟨b, hb, rfl⟩ | hf
  · have hS := h.nS hb
    have hC := (h.nC hb).1
    have g11 := h.2.2.2.2.2.2.2.2.2.2.1 b hb
    rcases uIx_or a2 (n := C b / 4) (by omega) with ⟨j, hj, rfl⟩ | hf
    · have hls := h.ls4 hb
      have hem : fJx4a65c_isEmpty_aae02 (b + 4) Z = some (if S b = 0 then 1 else 0) := by
        unfold fJx4a65c_isEmpty_aae02
        rw [cLv3 (by omega), gdt, hls.1]
        by_cases h0 : S b = 0
        · rw [h0, if_pos (by decide), if_pos (by decide)]
          rfl
        · rw [if_neg (by rw [nIz (by omega)]; exact h0), if_neg h0]
          rfl
      have ec : ∀ r, (if (if S b = 0 then (1 : Int32) else 0) = 0 then (if Z.1 10 b 4 = Z.1 0 0 6 then fX6_drill_36 (nI j) b Z else fX6_drill_37 (nI j) b 1 Z) else fX6_drill_36 (nI j) b Z) = r → fX6_drill (nI b) (nI j) Z = r := fun r hr => by
        unfold fX6_drill
        rw [h.bandAt hb, cx1_l, h.phr hb hj, cx1_l, cLv10 hb, gdt, cLv3 (by omega), gdt, hem, cl1_s]
        exact hr
      have em : ∀ r, (if M 15 b = 0 then fX7_drill_38 (nI b) (nI j) M else (if M 21 b = M 1 0 then fX7_drill_38 (nI b) (nI j) M else fX7_drill_43 (nI b) (nI j) 0 M)) = r → fX7_drill (nI b) (nI j) M = r := fun r hr => by
        unfold fX7_drill
        rw [h.isPhrase hb hj, cl1_s, if_neg (by decide), gdn hb (by omega), gdn hb (by omega), nIc (by omega)]
        exact hr
      by_cases h0 : S b = 0
      · refine sI_err (j := 1) ⟨S, C, E, P, h⟩ (em _ ?_) (ec (some (.inr 3, Z)) ?_) rfl rfl
        · rw [hS.2, h0, if_pos (by decide)]
          rfl
        · rw [if_pos h0, if_neg (by decide)]
          rfl
      · have h0' : ¬ M 15 b = 0 := by
          rw [hS.2, nIz (by omega)]
          exact h0
        by_cases hd : M 21 b = M 1 0
        · refine sI_err (j := 1) ⟨S, C, E, P, h⟩ (em _ ?_) (ec (some (.inr 3, Z)) ?_) rfl rfl
          · rw [if_neg h0', if_pos hd]
            rfl
          · rw [if_neg h0, if_pos (by decide), g11.1, h.1.2.1, if_pos hd]
            rfl
        · have hj6 : j < 6 := by omega
          -- the class
          obtain ⟨Za, a1, a2, a3, a4, a5⟩ := c_lp h hb hj6 (S b) 0 100 Z (by omega) (by omega) rfl (fun _ _ => rfl) (fun k _ hk => (h.2.2.2.2.2.2.2.2.1 b k j hb hk hj6).1)
          obtain ⟨Zb, b1, b2, b3, b4⟩ := c_wear h hb (T := M 4) (S b) 0 100 Za (by omega) (by omega) a2 (a3 3 (by omega)) (fun i f hi hf => by rw [a3 6 (by omega)]; exact (h.2.1.2.2.2.1 i f hi hf).1)
          have a1' : fX0_learnPhrase b (nI j) Z = some Za := a1
          have b1' : fX0_wearPans b Za = some Zb := b1
          have k06 : Zb.1 0 0 6 = M 1 0 := by
            rw [b3 0 (by omega), a3 0 (by omega)]
            exact h.1.2.1
          have b14 : Zb.1 14 = Za.1 14 := b3 14 (by omega)
          have cr := c_cr h hb hj6 (Z' := cuI Zb 10 b (upd (Zb.1 10 b) 4 (M 1 0))) (f := uLK (M 19) S P b j) b2 (by rw [show (cuI Zb 10 b (upd (Zb.1 10 b) 4 (M 1 0))).1 3 = Zb.1 3 from rfl, b3 3 (by omega), a3 3 (by omega)]) (fun k hk => by
            rw [show (cuI Zb 10 b (upd (Zb.1 10 b) 4 (M 1 0))).1 14 = Zb.1 14 from rfl, b14]
            exact a4 k (by omega) hk) (S b) 0 100 (by omega) (by omega)
          have cr' : fX0_countRight b (nI j) (cuI Zb 10 b (upd (Zb.1 10 b) 4 (M 1 0))) = some (nI (uct (uLK (M 19) S P b j) (S b))) := cr
          -- the model
          have h1 : uRR n (cuI Z 10 b (upd (Z.1 10 b) 4 (M 1 0))) (va_up (va_up M 0 (fun _ => 0)) 21 (upd (M 21) b (M 1 0))) S C E P := by
            obtain ⟨r1, r2, r3, r4, r5, r6, r7, r8, r9, r10, r11, r12⟩ := h
            refine ⟨r1, r2, r3, r4, r5, r6, r7, r8, r9, fun b' hb' => ?_, fun b' hb' => ?_, r12⟩
            · obtain ⟨t1, t2, t3, t4⟩ := r10 b' hb'
              refine ⟨t1, t2, ?_, t4⟩
              by_cases hbb : b' = b
              · subst hbb
                rw [cuI_s]
                exact t3
              · rw [cuI_n (fun q => hbb q.2)]
                exact t3
            · have t := r11 b' hb'
              show (cuI Z 10 b (upd (Z.1 10 b) 4 (M 1 0))).1 10 b' 4 = upd (M 21) b (M 1 0) b' ∧ (cuI Z 10 b (upd (Z.1 10 b) 4 (M 1 0))).1 10 b' 6 = M 24 b' ∧ (M 22 b' = 0 ∧ (cuI Z 10 b (upd (Z.1 10 b) 4 (M 1 0))).1 10 b' 5 = -1 ∧ M 25 b' = 0 ∨ M 22 b' = 1 ∧ (cuI Z 10 b (upd (Z.1 10 b) 4 (M 1 0))).1 10 b' 5 = M 23 b' ∧ ∃ h, h < 1000 ∧ M 23 b' = nI h)
              by_cases hbb : b' = b
              · subst hbb
                rw [cuI_s, pk_us, pk_us]
                exact ⟨rfl, t.2⟩
              · rw [cuI_n (fun q => hbb q.2), pk_un hbb]
                exact t
          obtain ⟨Ma, m1, m2, m3⟩ := m_dr1 h1 hb hj6 (S b) 0 100 (va_up (va_up M 0 (fun _ => 0)) 21 (upd (M 21) b (M 1 0))) (by omega) (by omega) (fun _ _ => rfl) (fun k hk => by omega)
          have h2 : uRR n (cuI Z 10 b (upd (Z.1 10 b) 4 (M 1 0))) Ma S C E P := h1.scr (fun k _ _ _ _ q _ _ => m2 k q)
          have ma4 : Ma 4 = M 4 := m2 4 (by omega)
          have ma19 : Ma 19 = M 19 := m2 19 (by omega)
          obtain ⟨Mb, n1, n2, n3, n4, n5⟩ := m_dr2 h2 hb hj6 (f := uLK (M 19) S P b j) m3 (S b) 0 100 Ma (by omega) (by omega) (fun _ _ _ => rfl) rfl
          rw [ma4] at n3
          have eMb : Mb = va_up (va_up Ma 19 (Mb 19)) 4 (Mb 4) := up_eq2 n2
          have eMa : Ma = va_up (va_up (va_up M 0 (fun _ => 0)) 21 (upd (M 21) b (M 1 0))) 20 (Ma 20) := up_eq m2
          have eZb : Zb = (va_up (va_up Z.1 14 (Zb.1 14)) 6 (Zb.1 6), Z.2) := zz_eq (up_eq2 (fun k k1 k2 => by rw [b3 k k2, a3 k k1])) b2
          have H : uRR (n + 1) (cuI (va_up (va_up Z.1 14 (Zb.1 14)) 6 (Zb.1 6), Z.2) 10 b (upd (Z.1 10 b) 4 (M 1 0))) (va_up (va_up (va_up (va_up (va_up M 0 (fun _ => 0)) 21 (upd (M 21) b (M 1 0))) 20 (Ma 20)) 19 (Mb 19)) 4 (Mb 4)) S C E P := by
            obtain ⟨q1, q2, q3, q4, q5, q6, q7, q8, q9, q10, q11, q12⟩ := h1
            refine ⟨q1, ?_, q3, q4, q5, q6, q7, q8, fun b' k j' hb' hk hj' => ?_, q10, q11, q12⟩
            · obtain ⟨t1, t2, t3, t4, t5⟩ := h.2.1
              refine ⟨t1, t2, t3, fun i f hi hf => ?_, t5⟩
              obtain ⟨s1, s2, s3, s4, s5⟩ := t4 i f hi hf
              have bd := uwr_bd (o := fun k => Z.2.1 9 (P b k) 2) (T := M 4) (j := 4 * i + f) (by omega) (S b) (by omega)
              refine ⟨?_, s2, s3, ?_, s5⟩
              · show Zb.1 6 i f = Mb 4 (4 * i + f)
                rw [b4 i f hi hf, n3]
                rfl
              · show -(60 + 24 * ((n + 1 : Nat) : Int)) ≤ (Mb 4 (4 * i + f)).toInt ∧ (Mb 4 (4 * i + f)).toInt ≤ 60 + 24 * ((n + 1 : Nat) : Int)
                rw [n3]
                have bd' : (M 4 (4 * i + f)).toInt - ((S b : Nat) : Int) ≤ (uwr (fun k => (cuI Z 10 b (upd (Z.1 10 b) 4 (M 1 0))).2.1 9 (P b k) 2) (M 4) (S b) (4 * i + f)).toInt ∧ (uwr (fun k => (cuI Z 10 b (upd (Z.1 10 b) 4 (M 1 0))).2.1 9 (P b k) 2) (M 4) (S b) (4 * i + f)).toInt ≤ (M 4 (4 * i + f)).toInt := bd
                omega
            · obtain ⟨g1, g2⟩ := h.2.2.2.2.2.2.2.2.1 b' k j' hb' hk hj'
              have hS' := (h.nS hb').1
              show Zb.1 14 (E b' k) j' = Mb 19 (6 * (8 * b' + k) + j') ∧ (Mb 19 (6 * (8 * b' + k) + j') = 0 ∨ Mb 19 (6 * (8 * b' + k) + j') = 1 ∨ Mb 19 (6 * (8 * b' + k) + j') = 2)
              by_cases hh : b' = b ∧ j' = j
              · obtain ⟨rfl, rfl⟩ := hh
                rw [b14, a4 k (by omega) hk, n4 k (by omega) hk]
                refine ⟨rfl, ulr_or g2 ?_ ?_⟩
                · unfold ulw
                  split
                  · exact Or.inl rfl
                  · exact (h.2.2.2.2.2.2.2.2.1 b' (k - 1) j' hb' (by omega) hj').2
                · unfold uhg
                  split
                  · exact (h.2.2.2.2.2.2.2.2.1 b' (k + 1) j' hb' (by assumption) hj').2
                  · exact Or.inl rfl
              · rw [b14, a5 _ _ (fun q => by
                  obtain ⟨y1, k', y2, y3, y4⟩ := q
                  exact hh ⟨(h.inj b' k b k' hb' hk hb y3 y4).1, y1⟩), n5 _ (fun q => by
                  obtain ⟨k', y2, y3, y4⟩ := q
                  have := hS.1
                  exact hh ⟨by omega, by omega⟩), ma19]
                exact ⟨g1, g2⟩
          refine ⟨nI (uct (uLK (M 19) S P b j) (S b)), Mb, cuI Zb 10 b (upd (Zb.1 10 b) 4 (M 1 0)), em _ ?_, ⟨S, C, E, P, ?_⟩, Or.inl ⟨ec _ ?_, by rw [n2 0 (by omega) (by omega), m2 0 (by omega)]; rfl⟩⟩
          · rw [if_neg h0', if_neg hd]
            unfold fX7_drill_43
            rw [m_holds_0, cl2_s, if_neg (by decide), gdn hb (by omega), bnd_e, nIc (by omega)]
            have m1' : lf4 fX7_drill_64 100 (nI b) (nI j) 0 (va_up (va_up M 0 (fun _ => 0)) 21 (upd (M 21) b (M 1 0))) = fX7_drill_96 (nI b) (nI j) Ma := m1
            have n1' : fX7_drill_96 (nI b) (nI j) Ma = some (nI (uct (uLK (M 19) S P b j) (S b)), Mb) := n1
            rw [← n1', ← m1']
            rfl
          · have e10 : Zb.1 10 b = Z.1 10 b := by rw [b3 10 (by omega), a3 10 (by omega)]
            rw [e10, eMb, eMa, eZb]
            exact H
          · rw [if_neg h0, if_pos (by decide), g11.1, h.1.2.1, if_neg hd]
            unfold fX6_drill_37
            have l10b : cLv Zb.2.2 10 b = true := cLv10 hb
            have l10a : cLv Za.2.2 10 b = true := cLv10 hb
            rw [c_rs_1, cx1_l, cLv10 hb, gdt, a1', cl1_s, l10a, gdt, b1', cl1_s, l10b, gdt, bnd_e, k06, cr', cl1_s]
    · refine sI_err (cd := 1) (j := 0) ⟨S, C, E, P, h⟩ ?_ ?_ rfl rfl
      · unfold fX7_drill
        rw [h.isPhraseF hb hf, cl1_s, if_pos (by decide)]
        rfl
      · unfold fX6_drill
        rw [h.bandAt hb, cx1_l, h.phrF hb hf, cx1_r]
  · refine sI_err (cd := 1) (j := 0) ⟨S, C, E, P, h⟩ ?_ ?_ rfl rfl
    · unfold fX7_drill
      rw [m_isPhraseF hf, cl1_s, if_pos (by decide)]
      rfl
    · unfold fX6_drill
      rw [h.bandAtF hf, cx1_r]
end URDR
