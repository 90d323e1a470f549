/-! PURE PART. The law's steps: parts, ranks. -/
section PL4
variable {n : Nat} {Z : CZ} {M : MT} {S C : Nat → Nat} {E P : Nat → Nat → Nat} {F : Nat → Int32}
theorem ap32 (k32 : Int32 → Int32 → Int32 → Int32 → Int32 → CZ → Option (Int32 × CZ)) (x1 : Int32) (x2 : Int32) (x3 : Int32) (x4 : Int32) (x5 : Int32) (Z : CZ) : fL_areParts_32 k32 x1 x2 x3 x4 x5 Z = cl1 (fX6_ofBand_n x1 (2 : Int32) Z) (fun v6 => (if v6 ≤ x5 then fL_areParts_130 x1 x2 x3 x4 Z else (if x3 = 0 then fL_areParts_130 x1 x2 x3 x4 Z else cl2 (fX6_part_n x1 x5 Z) (fun v8 Z10 => (if v8 = (-1 : Int32) then fL_areParts_72 k32 x1 x2 x5 v8 (0 : Int32) x4 Z10 else fL_areParts_72 k32 x1 x2 x5 v8 ((1 : Int32) <<< (v8 &&& 31)) x4 Z10))))) := rfl
theorem ap133 (k133 : Int32 → Int32 → Int32 → Int32 → Int32 → CZ → Option (Int32 × CZ)) (x1 : Int32) (x2 : Int32) (x3 : Int32) (x4 : Int32) (x5 : Int32) (Z : CZ) : fL_areParts_133 k133 x1 x2 x3 x4 x5 Z = cl1 (fX6_ofBand_n x1 (0 : Int32) Z) (fun v12 => (if v12 ≤ x5 then fL_areParts_224 x3 Z else (if x3 = 0 then fL_areParts_224 x3 Z else cl2 (fX6_without_n x1 x5 Z) (fun v14 Z16 => (if x2 = (-1 : Int32) then (if v14 = (-1 : Int32) then fL_areParts_217 k133 x1 x2 x4 x5 (1 : Int32) Z16 else fL_areParts_217 k133 x1 x2 x4 x5 (0 : Int32) Z16) else (if ((x4 >>> (x5 &&& 31)) &&& (1 : Int32)) = 0 then (if v14 = x2 then fL_areParts_217 k133 x1 x2 x4 x5 (1 : Int32) Z16 else fL_areParts_217 k133 x1 x2 x4 x5 (0 : Int32) Z16) else (if v14 = (-1 : Int32) then fL_areParts_212 k133 x1 x2 x4 x5 Z16 else (if v14 < x2 then fL_areParts_217 k133 x1 x2 x4 x5 (0 : Int32) Z16 else fL_areParts_212 k133 x1 x2 x4 x5 Z16)))))))) := rfl
theorem ar4 (Z : CZ) (k4 : Int32 → Int32 → Option (Int32)) (x1 : Int32) (x2 : Int32) : fL_areRanked_4 Z k4 x1 x2 = (if (3 : Int32) ≤ x2 then fL_areRanked_131 Z x1 else (if x1 = 0 then fL_areRanked_131 Z x1 else cl1 (fX6_rank_n x2 Z) (fun v1 => cl1 (fX6_rank_n (x2 + (1 : Int32)) Z) (fun v3 => (if v1 = (-1 : Int32) then (if v3 = (-1 : Int32) then fL_areRanked_124 Z k4 x2 (1 : Int32) else fL_areRanked_124 Z k4 x2 (0 : Int32)) else (if v3 = (-1 : Int32) then fL_areRanked_119 Z k4 x2 else cl1 (fL_scores_n v1 Z) (fun v5 => cl1 (fL_scores_n v3 Z) (fun v7 => (if v7 < v5 then fL_areRanked_119 Z k4 x2 else cl1 (fL_scores_n v1 Z) (fun v9 => cl1 (fL_scores_n v3 Z) (fun v11 => (if v9 = v11 then cl1 (fX6_ofBand_n v1 (3 : Int32) Z) (fun v13 => cl1 (fX6_ofBand_n v3 (3 : Int32) Z) (fun v15 => (if v13 < v15 then fL_areRanked_119 Z k4 x2 else cl1 (fX6_ofBand_n v1 (3 : Int32) Z) (fun v17 => cl1 (fX6_ofBand_n v3 (3 : Int32) Z) (fun v19 => (if v17 = v19 then (if v3 ≤ v1 then fL_areRanked_123 Z k4 x2 else fL_areRanked_119 Z k4 x2) else fL_areRanked_123 Z k4 x2)))))) else fL_areRanked_123 Z k4 x2)))))))))))) := rfl
theorem bv_mono {r r' : Nat → Option Nat} {f : Nat → Nat} {s : Nat} (h : ∀ k w, k < s → r k = some w → ∃ w', r' k = some w' ∧ w' ≤ w) {v : Nat} (hv : bv r f s = some v) : ∃ v', bv r' f s = some v' ∧ v' ≤ v := by
  by_cases hx : pNo r s
  · rw [bv_n hx] at hv
    cases hv
  · have hx' : ¬ pNo r' s := fun q => hx (fun k hk => by
      rcases hw : r k with _ | w
      · rfl
      · obtain ⟨w', a, _⟩ := h k w hk hw
        rw [q k hk] at a
        cases a)
    obtain ⟨k0, v0, hb⟩ := pBest_ex (f := f) s hx
    obtain ⟨k1, v1, hb'⟩ := pBest_ex (f := f) s hx'
    rw [bv_s hb] at hv
    have hv := Option.some.inj hv
    refine ⟨v1, bv_s hb', ?_⟩
    obtain ⟨a1, ⟨w, a2, a3⟩, _⟩ := hb
    obtain ⟨w', c1, c2⟩ := h k0 w a1 a2
    have := hb'.2.2.1 k0 w' a1 c1
    omega
theorem uR_mono {s ph b : Nat} {out : Int32} (hs : s < 2147483648) : ∀ d p, p + d + 1 = ph → ∀ k w, k < s → uR' M P s b ph out p k = some w → ∃ w', uR' M P s b ph (-1) p k = some w' ∧ w' ≤ w
  | 0, p, hp, k, w, hk, hw => by
    have ep : p = ph - 1 := by omega
    rw [ep, uR_last (by omega)] at hw
    rw [ep, uR_last (by omega)]
    split at hw
    · rename_i q
      exact ⟨w, by rw [if_pos ⟨q.1, ne_m1 (by omega)⟩]; exact hw, Nat.le_refl _⟩
    · cases hw
  | d + 1, p, hp, k, w, hk, hw => by
    rw [uR_step (by omega)] at hw
    rw [uR_step (by omega)]
    split at hw
    · rename_i q
      rcases hv : bv (uR' M P s b ph out (p + 1)) (uf M P b (p + 1) (nI k)) s with _ | v
      · rw [hv] at hw
        cases hw
      · rw [hv] at hw
        have hw : uins M b p (lyo M P b k) + v = w := Option.some.inj hw
        obtain ⟨v', a1, a2⟩ := bv_mono (fun k' w' hk' hw' => uR_mono hs d (p + 1) (by omega) k' w' hk' hw') hv
        refine ⟨uins M b p (lyo M P b k) + v', ?_, by omega⟩
        rw [if_pos ⟨q.1, ne_m1 (by omega)⟩, a1]
        rfl
    · cases hw
theorem urdy_mono {s ph b : Nat} {out : Int32} (hs : s < 2147483648) (h : urdy M P s b ph out) : urdy M P s b ph (-1) :=
  ⟨h.1, fun q hq z => h.2 q hq (fun k hk => by
    rcases hw : uR' M P s b ph out q k with _ | w
    · rfl
    · obtain ⟨w', a, _⟩ := uR_mono hs (ph - 1 - q) q (by omega) k w hk hw
      rw [z k hk] at a
      cases a)⟩
theorem uval_mono {s ph b : Nat} {out : Int32} (hs : s < 2147483648) (h : urdy M P s b ph out) : uval M P s b ph (-1) ≤ uval M P s b ph out := by
  have hph := h.1
  obtain ⟨k0, v0, hb⟩ := pBest_ex (f := uf M P b 0 (-1)) s (h.2 0 hph)
  have e := bv_s hb
  obtain ⟨v', a1, a2⟩ := bv_mono (fun k w hk hw => uR_mono hs (ph - 1) 0 (by omega) k w hk hw) e
  unfold uval
  rw [e, a1]
  exact a2
theorem uch_path {s ph b : Nat} (h : urdy M P s b ph (-1)) {q : Nat} (hq : q < ph) : ∃ v, pBest (uR' M P s b ph (-1) q) (uf M P b q (uah' M P s b ph (-1) q)) s (uch M P s b ph (-1) q) v := by
  obtain ⟨k0, v0, hb⟩ := pBest_ex (f := uf M P b q (uah' M P s b ph (-1) q)) s (h.2 q hq)
  have e := uch_eq hb
  exact ⟨v0, by rw [e]; exact hb⟩
theorem uch_kn {s ph b : Nat} (h : urdy M P s b ph (-1)) {q : Nat} (hq : q < ph) : uch M P s b ph (-1) q < s ∧ M 19 (6 * (8 * b + uch M P s b ph (-1) q) + q) = 1 := by
  obtain ⟨v, a1, ⟨w, a2, _⟩, _⟩ := uch_path h hq
  refine ⟨a1, ?_⟩
  obtain ⟨c, hc⟩ : ∃ c, c = uch M P s b ph (-1) q := ⟨_, rfl⟩
  rw [← hc] at a2 ⊢
  by_cases hl : q + 1 < ph
  · rw [uR_step hl] at a2
    split at a2
    · rename_i z
      exact z.1
    · cases a2
  · have e : q = ph - 1 := by omega
    rw [e, uR_last (by omega)] at a2
    split at a2
    · rename_i z
      rw [e]
      exact z.1
    · cases a2
theorem pBest.sub {r r' : Nat → Option Nat} {f : Nat → Nat} {s k0 v0 : Nat} (h : pBest r' f s k0 v0) (hm : ∀ k w, k < s → r k = some w → ∃ w', r' k = some w' ∧ w' ≤ w) (e : r k0 = r' k0) : pBest r f s k0 v0 := by
  obtain ⟨h1, h2, h3, h4⟩ := h
  refine ⟨h1, by rw [e]; exact h2, fun k w hk hw => ?_, fun k w hk hw => ?_⟩
  · obtain ⟨w', a, b⟩ := hm k w hk hw
    have := h3 k w' hk a
    omega
  · obtain ⟨w', a, b⟩ := hm k w (by omega) hw
    have := h4 k w' hk a
    omega
/-- who plays in no phrase may be missing -/
theorem uch_same {s ph b c : Nat} (hs : s < 2147483648) (h : urdy M P s b ph (-1)) (hc : c < s) (hno : ∀ q, q < ph → uch M P s b ph (-1) q ≠ c) : ∀ d p, p + d + 1 = ph → uR' M P s b ph (nI c) p (uch M P s b ph (-1) p) = uR' M P s b ph (-1) p (uch M P s b ph (-1) p)
  | 0, p, hp => by
    have hpp : p < ph := by omega
    obtain ⟨k1, k2⟩ := uch_kn h hpp
    have k3 := hno p hpp
    obtain ⟨x, hx⟩ : ∃ x, x = uch M P s b ph (-1) p := ⟨_, rfl⟩
    rw [← hx] at k1 k2 k3 ⊢
    have ep : p = ph - 1 := by omega
    rw [ep] at k2 ⊢
    rw [uR_last (by omega), uR_last (by omega), if_pos ⟨k2, by rw [nIe (by omega) (by omega)]; exact k3⟩, if_pos ⟨k2, ne_m1 (by omega)⟩]
  | d + 1, p, hp => by
    have hpp : p < ph := by omega
    have ih := uch_same hs h hc hno d (p + 1) (by omega)
    obtain ⟨v, hb⟩ := uch_path h (show p + 1 < ph by omega)
    obtain ⟨k1, k2⟩ := uch_kn h hpp
    have k3 := hno p hpp
    have ea : uah' M P s b ph (-1) (p + 1) = nI (uch M P s b ph (-1) p) := if_neg (by omega)
    rw [ea] at hb
    have hb2 := hb.sub (r := uR' M P s b ph (nI c) (p + 1)) (fun k w hk hw => uR_mono hs d (p + 1) (by omega) k w hk hw) ih
    have e1 := bv_s hb
    have e2 := bv_s hb2
    obtain ⟨x, hx⟩ : ∃ x, x = uch M P s b ph (-1) p := ⟨_, rfl⟩
    rw [← hx] at k1 k2 k3 e1 e2 ⊢
    rw [uR_step (by omega), uR_step (by omega), if_pos ⟨k2, by rw [nIe (by omega) (by omega)]; exact k3⟩, if_pos ⟨k2, ne_m1 (by omega)⟩, e1, e2]
theorem urdy_same {s ph b c : Nat} (hs : s < 2147483648) (h : urdy M P s b ph (-1)) (hc : c < s) (hno : ∀ q, q < ph → uch M P s b ph (-1) q ≠ c) : urdy M P s b ph (nI c) ∧ uval M P s b ph (nI c) = uval M P s b ph (-1) := by
  have hph := h.1
  refine ⟨⟨hph, fun q hq z => ?_⟩, ?_⟩
  · obtain ⟨v, a1, ⟨w, a2, _⟩, _⟩ := uch_path h hq
    have e := uch_same hs h hc hno (ph - 1 - q) q (by omega)
    rw [a2, z _ a1] at e
    cases e
  · obtain ⟨v, hb⟩ := uch_path h hph
    have ea : uah' M P s b ph (-1) 0 = -1 := if_pos rfl
    rw [ea] at hb
    have hb2 := hb.sub (r := uR' M P s b ph (nI c) 0) (fun k w hk hw => uR_mono hs (ph - 1) 0 (by omega) k w hk hw) (uch_same hs h hc hno (ph - 1) 0 (by omega))
    unfold uval
    rw [bv_s hb, bv_s hb2]
/-! a set of seats, by the bits of an int -/
set_option maxRecDepth 100000 in
theorem bt_or : ∀ m, m < 256 → ∀ k, k < 8 → nI m ||| ((1 : Int32) <<< (nI k &&& 31)) = nI (m ||| 2 ^ k) := by decide +kernel
set_option maxRecDepth 100000 in
theorem bt_get : ∀ m, m < 256 → ∀ k, k < 8 → ((nI m >>> (nI k &&& 31)) &&& (1 : Int32) = 0 ↔ m.testBit k = false) := by decide +kernel
set_option maxRecDepth 100000 in
theorem bt_set : ∀ m, m < 256 → ∀ c, c < 8 → m ||| 2 ^ c < 256 ∧ ∀ k, k < 8 → (m ||| 2 ^ c).testBit k = (m.testBit k || decide (c = k)) := by decide +kernel
def BS (m : Nat) (ch : Nat → Nat) (p : Nat) : Prop := m < 256 ∧ ∀ k, k < 8 → (m.testBit k = true ↔ ∃ q, q < p ∧ ch q = k)
theorem BS.zero {ch : Nat → Nat} : BS 0 ch 0 := by
  refine ⟨by omega, fun k _ => ⟨fun h => ?_, fun ⟨q, h, _⟩ => absurd h (Nat.not_lt_zero q)⟩⟩
  rw [Nat.zero_testBit] at h
  cases h
theorem BS.next {m p : Nat} {ch : Nat → Nat} (h : BS m ch p) (hc : ch p < 8) : BS (m ||| 2 ^ ch p) ch (p + 1) := by
  obtain ⟨h1, h2⟩ := bt_set m h.1 (ch p) hc
  refine ⟨h1, fun k hk => ?_⟩
  rw [h2 k hk, Bool.or_eq_true, decide_eq_true_eq, h.2 k hk]
  constructor
  · rintro (⟨q, q1, q2⟩ | e)
    · exact ⟨q, by omega, q2⟩
    · exact ⟨p, by omega, e⟩
  · rintro ⟨q, q1, q2⟩
    by_cases e : q = p
    · exact Or.inr (by rw [← e]; exact q2)
    · exact Or.inl ⟨q, by omega, q2⟩
theorem ap72_n {k : Int32 → Int32 → Int32 → Int32 → Int32 → CZ → Option (Int32 × CZ)} {x1 : Int32} {p : Nat} : fL_areParts_72 k x1 (-1) (nI p) (-1) 0 0 Z = k x1 (-1) 1 0 (nI (p + 1)) Z := by
  unfold fL_areParts_72
  rw [bnd_e, show ((0 : Int32) ||| 0) = 0 from by decide, if_pos rfl]
  unfold fL_areParts_86
  rw [if_pos rfl]
  unfold fL_areParts_96
  rw [if_pos rfl, if_pos rfl]
  unfold fL_areParts_118 fL_areParts_123
  rw [bnd_e, u_a1]
theorem ap72_y {k : Int32 → Int32 → Int32 → Int32 → Int32 → CZ → Option (Int32 × CZ)} {x1 x2 x4 t : Int32} {p c : Nat} (h2 : ¬ x2 = -1) (hc : ¬ nI c = -1) (hk : fX6_knows_n x1 (nI c) (nI p) Z = some 1) : fL_areParts_72 k x1 x2 (nI p) (nI c) t x4 Z = k x1 x2 1 (x4 ||| t) (nI (p + 1)) Z := by
  unfold fL_areParts_72
  rw [bnd_e, if_neg hc]
  unfold fL_areParts_86
  rw [if_neg h2]
  unfold fL_areParts_96
  rw [if_pos rfl, if_neg hc, hk, cl1_s, if_pos rfl]
  unfold fL_areParts_118 fL_areParts_123
  rw [bnd_e, u_a1]
theorem pt_l1n {b : Nat} (hb : b < 4) (hy : ¬ urdy M P (S b) b (C b / 4) (-1)) : ∀ (d p fuel : Nat) (Z : CZ), p + d = C b / 4 → d < fuel → uRR n Z M S C E P → ∃ Z', uRR n Z' M S C E P ∧ Z'.2 = Z.2 ∧ lf6 fL_areParts_32 fuel (nI b) (-1) 1 0 (nI p) Z = fL_areParts_130 (nI b) (-1) 1 0 Z'
  | _, _, 0, _, _, hf, _ => absurd hf (Nat.not_lt_zero _)
  | 0, p, fuel + 1, Z, hp, _, h => by
    have hC := (h.nC hb).1
    refine ⟨Z, h, rfl, ?_⟩
    rw [lf6_s, ap32, q_ofBand2 h hb, cl1_s, if_pos (nI_le (by omega) (by omega))]
  | d + 1, p, fuel + 1, Z, hp, hf, h => by
    have hC := (h.nC hb).1
    obtain ⟨Z1, h1, z1, ⟨q, _⟩ | ⟨_, e⟩⟩ := q_part h hb (show p < C b / 4 by omega)
    · exact absurd q hy
    · obtain ⟨Z2, h2, z2, e2⟩ := pt_l1n hb hy d (p + 1) fuel Z1 (by omega) (by omega) h1
      refine ⟨Z2, h2, z2.trans z1, ?_⟩
      rw [lf6_s, ap32, q_ofBand2 h hb, cl1_s, if_neg (nI_ge (by omega) (by omega)), if_neg (by decide), e, cl2_s, if_pos rfl, ap72_n]
      exact e2
theorem pt_l1y {b U : Nat} (hb : b < 4) (hy : urdy M P (S b) b (C b / 4) (-1)) (hU : U < 2147483648) : ∀ (d p fuel m : Nat) (Z : CZ), p + d = C b / 4 → d < fuel → uRR n Z M S C E P → BS m (uch M P (S b) b (C b / 4) (-1)) p → ∃ (Z' : CZ) (m' : Nat), uRR n Z' M S C E P ∧ Z'.2 = Z.2 ∧ BS m' (uch M P (S b) b (C b / 4) (-1)) (C b / 4) ∧ lf6 fL_areParts_32 fuel (nI b) (nI U) 1 (nI m) (nI p) Z = fL_areParts_130 (nI b) (nI U) 1 (nI m') Z'
  | _, _, 0, _, _, _, hf, _, _ => absurd hf (Nat.not_lt_zero _)
  | 0, p, fuel + 1, m, Z, hp, _, h, hm => by
    have hC := (h.nC hb).1
    have e : p = C b / 4 := by omega
    refine ⟨Z, m, h, rfl, by rw [e] at hm; exact hm, ?_⟩
    rw [lf6_s, ap32, q_ofBand2 h hb, cl1_s, if_pos (nI_le (by omega) (by omega))]
  | d + 1, p, fuel + 1, m, Z, hp, hf, h, hm => by
    have hC := (h.nC hb).1
    have hS := (h.nS hb).1
    have hpC : p < C b / 4 := by omega
    obtain ⟨k1, k2⟩ := uch_kn hy hpC
    obtain ⟨Z1, h1, z1, ⟨_, e⟩ | ⟨q, _⟩⟩ := q_part h hb hpC
    · obtain ⟨Z2, m', h2, z2, hm2, e2⟩ := pt_l1y hb hy hU d (p + 1) fuel _ Z1 (by omega) (by omega) h1 (hm.next (by omega))
      refine ⟨Z2, m', h2, z2.trans z1, hm2, ?_⟩
      rw [lf6_s, ap32, q_ofBand2 h hb, cl1_s, if_neg (nI_ge (by omega) (by omega)), if_neg (by decide), e, cl2_s, if_neg (ne_m1 (by omega)), ap72_y (ne_m1 hU) (ne_m1 (by omega)) (by rw [q_knows h1 hb k1 hpC, k2]), bt_or m hm.1 _ (by omega)]
      exact e2
    · exact absurd hy q
theorem pt_l2 {b m : Nat} {x2 : Int32} (hb : b < 4) (hs : ∀ k, k < S b → ∀ Z, uRR n Z M S C E P → ∃ (Z' : CZ) (v : Int32), uRR n Z' M S C E P ∧ Z'.2 = Z.2 ∧ fX6_without_n (nI b) (nI k) Z = some (v, Z') ∧ ((x2 = -1 ∧ v = -1) ∨ (¬ x2 = -1 ∧ (((nI m >>> (nI k &&& 31)) &&& (1 : Int32) = 0 ∧ v = x2) ∨ (¬ ((nI m >>> (nI k &&& 31)) &&& (1 : Int32) = 0) ∧ (v = -1 ∨ ¬ v < x2)))))) : ∀ (d k fuel : Nat) (Z : CZ), k + d = S b → d < fuel → uRR n Z M S C E P → ∃ Z', uRR n Z' M S C E P ∧ Z'.2 = Z.2 ∧ lf6 fL_areParts_133 fuel (nI b) x2 1 (nI m) (nI k) Z = some (1, Z')
  | _, _, 0, _, _, hf, _ => absurd hf (Nat.not_lt_zero _)
  | 0, k, fuel + 1, Z, hk, _, h => by
    have hS := (h.nS hb).1
    refine ⟨Z, h, rfl, ?_⟩
    rw [lf6_s, ap133, q_ofBand0 h hb, cl1_s, if_pos (nI_le (by omega) (by omega))]
    rfl
  | d + 1, k, fuel + 1, Z, hk, hf, h => by
    have hS := (h.nS hb).1
    obtain ⟨Z1, v, h1, z1, e, hv⟩ := hs k (by omega) Z h
    obtain ⟨Z2, h2, z2, e2⟩ := pt_l2 hb hs d (k + 1) fuel Z1 (by omega) (by omega) h1
    refine ⟨Z2, h2, z2.trans z1, ?_⟩
    have fin : fL_areParts_217 (lf6 fL_areParts_133 fuel) (nI b) x2 (nI m) (nI k) 1 Z1 = some (1, Z2) := by
      unfold fL_areParts_217
      rw [bnd_e, u_a1]
      exact e2
    rw [lf6_s, ap133, q_ofBand0 h hb, cl1_s, if_neg (nI_ge (by omega) (by omega)), if_neg (by decide), e, cl2_s]
    rcases hv with ⟨a1, a2⟩ | ⟨a1, ⟨a2, a3⟩ | ⟨a2, a3⟩⟩
    · rw [if_pos a1, if_pos a2]
      exact fin
    · rw [if_neg a1, if_pos a2, if_pos a3]
      exact fin
    · rw [if_neg a1, if_neg a2]
      by_cases c : v = -1
      · rw [if_pos c]
        exact fin
      · rw [if_neg c, if_neg (a3.resolve_left c)]
        exact fin
theorem p_areParts (h : uRR n Z M S C E P) {b : Nat} (hb : b < 4) : ∃ Z', uRR n Z' M S C E P ∧ Z'.2 = Z.2 ∧ fL_areParts (nI b) Z = some (1, Z') := by
  have hC := (h.nC hb).1
  have hS := (h.nS hb).1
  obtain ⟨Z1, h1, z1, ⟨hy, e⟩ | ⟨hy, e⟩⟩ := q_leaps h hb
  · have hv := uval_le h hb hy
    have hph := hy.1
    obtain ⟨U, hU⟩ : ∃ U, U = uval M P (S b) b (C b / 4) (-1) := ⟨_, rfl⟩
    rw [← hU] at e hv
    obtain ⟨Z2, m, h2, z2, hm, e2⟩ := pt_l1y hb hy (U := U) (by omega) (C b / 4) 0 100 0 Z1 (by omega) (by omega) h1 BS.zero
    obtain ⟨Z3, h3, z3, e3⟩ := pt_l2 (x2 := nI U) (m := m) hb (fun k hk Z h => by
      obtain ⟨Z', h', z', hw⟩ := q_without h hb hk
      have hbt := bt_get m hm.1 k (by omega)
      by_cases c : (nI m >>> (nI k &&& 31)) &&& (1 : Int32) = 0
      · have hno : ∀ q, q < C b / 4 → uch M P (S b) b (C b / 4) (-1) q ≠ k := fun q hq ez => by
          have t1 := hbt.mp c
          have t2 := (hm.2 k (by omega)).mpr ⟨q, hq, ez⟩
          rw [t1] at t2
          cases t2
        obtain ⟨r1, r2⟩ := urdy_same (by omega) hy hk hno
        rcases hw with ⟨_, e⟩ | ⟨q, _⟩
        · exact ⟨Z', _, h', z', e, Or.inr ⟨ne_m1 (by omega), Or.inl ⟨c, by rw [r2, hU]⟩⟩⟩
        · exact absurd r1 q
      · rcases hw with ⟨q, e⟩ | ⟨_, e⟩
        · have l := uval_mono (by omega) q
          have hv' : uval M P (S b) b (C b / 4) (nI k) ≤ 144 := uval_le h hb q
          exact ⟨Z', _, h', z', e, Or.inr ⟨ne_m1 (by omega), Or.inr ⟨c, Or.inr (by rw [nIlt (by omega) (by omega)]; omega)⟩⟩⟩
        · exact ⟨Z', _, h', z', e, Or.inr ⟨ne_m1 (by omega), Or.inr ⟨c, Or.inl rfl⟩⟩⟩) (S b) 0 100 Z2 (by omega) (by omega) h2
    refine ⟨Z3, h3, z3.trans (z2.trans z1), ?_⟩
    unfold fL_areParts
    rw [e, cl2_s, if_neg (ne_m1 (by omega)), q_ofBand2 h1 hb, cl1_s, if_neg (show ¬ (nI (C b / 4) ≤ (0 : Int32)) from nI_nle (by omega) (by omega))]
    unfold fL_areParts_20 fL_areParts_25
    refine Eq.trans e2 ?_
    unfold fL_areParts_130
    exact e3
  · obtain ⟨Z2, h2, z2, e2⟩ := pt_l1n hb hy (C b / 4) 0 100 Z1 (by omega) (by omega) h1
    obtain ⟨Z3, h3, z3, e3⟩ := pt_l2 (x2 := -1) (m := 0) hb (fun k hk Z h => by
      obtain ⟨Z', h', z', ⟨q, _⟩ | ⟨_, e⟩⟩ := q_without h hb hk
      · exact absurd (urdy_mono (by omega) q) hy
      · exact ⟨Z', _, h', z', e, Or.inl ⟨rfl, rfl⟩⟩) (S b) 0 100 Z2 (by omega) (by omega) h2
    refine ⟨Z3, h3, z3.trans (z2.trans z1), ?_⟩
    unfold fL_areParts
    rw [e, cl2_s, if_pos rfl]
    unfold fL_areParts_20 fL_areParts_25
    refine Eq.trans e2 ?_
    unfold fL_areParts_130
    exact e3
theorem p_parts (h : INV n Z F) {b : Nat} (hb : b < 4) : GO n (fL_step_1384 (nI b) Z F) := by
  obtain ⟨M, S, C, E, P, h, hf, hx⟩ := h
  obtain ⟨Z', h', hz, e⟩ := p_areParts h hb
  refine ⟨Z', F, ?_, INV.eq hf hx (k := 0) h' (by omega) (by rw [hz]) (by rw [hz]) rfl rfl rfl rfl⟩
  unfold fL_step_1384
  rw [e, cl2_s]
  rfl
/-! ranks -/
theorem un_next {p : Nat} (hp : p ≤ 2) (h0 : ∀ b, b < 4 → M 25 b = 5 → un M b ≠ p) {b : Nat} (_hb : b < 4) : un M b ≠ p + 1 := fun e => by
  have key : ∀ o, o < 4 → ut M o b = 0 ∨ (ut M o b = 1 ∧ M 25 o = 5 ∧ un M o < un M b) := fun o ho => by
    rcases ut_or M o b with ⟨⟨q1, q2, q3⟩, q4⟩ | ⟨_, q4⟩
    · exact Or.inr ⟨q4, q1, un_lt ho q1 q2 q3⟩
    · exact Or.inl q4
  have lt : ∀ o, o < 4 → ut M o b = 0 ∨ (ut M o b = 1 ∧ un M o < p) := fun o ho => by
    rcases key o ho with q | ⟨q1, q2, q3⟩
    · exact Or.inl q
    · have := h0 o ho q2
      exact Or.inr ⟨q1, by omega⟩
  have dis : ∀ o o', o < 4 → o' < 4 → o ≠ o' → ut M o b = 0 ∨ ut M o' b = 0 ∨ un M o < un M o' ∨ un M o' < un M o := fun o o' ho ho' ne => by
    rcases key o ho with q | ⟨_, q2, _⟩
    · exact Or.inl q
    · rcases key o' ho' with r | ⟨_, r2, _⟩
      · exact Or.inr (Or.inl r)
      · have : un M o ≠ un M o' := fun z => ne (un_inj ho ho' q2 r2 z)
        exact Or.inr (Or.inr (by omega))
  have e' : ut M 0 b + ut M 1 b + ut M 2 b + ut M 3 b = p + 1 := e
  have l0 := lt 0 (by omega)
  have l1 := lt 1 (by omega)
  have l2 := lt 2 (by omega)
  have l3 := lt 3 (by omega)
  have d01 := dis 0 1 (by omega) (by omega) (by omega)
  have d02 := dis 0 2 (by omega) (by omega) (by omega)
  have d03 := dis 0 3 (by omega) (by omega) (by omega)
  have d12 := dis 1 2 (by omega) (by omega) (by omega)
  have d13 := dis 1 3 (by omega) (by omega) (by omega)
  have d23 := dis 2 3 (by omega) (by omega) (by omega)
  clear dis lt key e h0
  rcases l0 with l0 | ⟨l0, l0'⟩ <;> rcases l1 with l1 | ⟨l1, l1'⟩ <;> rcases l2 with l2 | ⟨l2, l2'⟩ <;> rcases l3 with l3 | ⟨l3, l3'⟩ <;> omega
theorem uhd_rk (h : uRR n Z M S C E P) {b : Nat} (hb : b < 4) (hr : M 25 b = 5) : uhd M b = M 23 b := by
  rcases h.uhd hb with ⟨_, _, _, q⟩ | ⟨a, _, _, _, q, r⟩
  · rw [q] at hr
    exact absurd hr (by decide)
  · rw [q, r]
theorem q_score (h : uRR n Z M S C E P) {b : Nat} (hb : b < 4) (hr : M 25 b = 5) : fL_scores_n (nI b) Z = some (uS M b) := by
  rcases k_score h hb with ⟨_, e⟩ | ⟨q, _⟩
  · exact nb_score _ _ _ e
  · exact absurd hr q
theorem rk_s (h : uRR n Z M S C E P) {p : Nat} (hp : p < 3) (fuel : Nat) : lf2 (fL_areRanked_4 Z) (fuel + 1) 1 (nI p) = lf2 (fL_areRanked_4 Z) fuel 1 (nI (p + 1)) := by
  obtain ⟨w1, e1, n1, y1⟩ := k_rank h (show p < 4 by omega)
  obtain ⟨w3, e3, n3, y3⟩ := k_rank h (show p + 1 < 4 by omega)
  have e1 := nb_rank _ _ _ e1
  have e3 := nb_rank _ _ _ e3
  have f1 : fL_areRanked_124 Z (lf2 (fL_areRanked_4 Z) fuel) (nI p) 1 = lf2 (fL_areRanked_4 Z) fuel 1 (nI (p + 1)) := by
    unfold fL_areRanked_124
    rw [bnd_e, u_a1]
  have f2 : fL_areRanked_119 Z (lf2 (fL_areRanked_4 Z) fuel) (nI p) = lf2 (fL_areRanked_4 Z) fuel 1 (nI (p + 1)) := f1
  rw [lf2_s, ar4, if_neg (show ¬ ((3 : Int32) ≤ nI p) from nI_ge (b := 3) (by omega) (by omega)), if_neg (by decide), e1, cl1_s, u_a1, e3, cl1_s]
  by_cases c : ∃ b, b < 4 ∧ M 25 b = 5 ∧ un M b = p
  · obtain ⟨b1, b1l, r1, u1⟩ := c
    rw [y1 b1 b1l r1 u1, if_neg (ne_m1 (by omega))]
    by_cases c' : ∃ b, b < 4 ∧ M 25 b = 5 ∧ un M b = p + 1
    · obtain ⟨b3, b3l, r3, u3⟩ := c'
      rw [y3 b3 b3l r3 u3, if_neg (ne_m1 (by omega))]
      have ne : b1 ≠ b3 := fun z => by
        rw [z] at u1
        omega
      have ah : uah M b1 b3 := by
        have : uah M b1 b3 ∨ uah M b3 b1 := by
          unfold uah
          omega
        rcases this with q | q
        · exact q
        · have := un_lt b3l r3 (fun z => ne z.symm) q
          omega
      unfold uah at ah
      rw [q_score h b1l r1, cl1_s, q_score h b3l r3, cl1_s]
      rcases ah with ah | ⟨ah, ah2⟩
      · rw [if_pos (i_lt.mpr ah)]
        exact f2
      · rw [if_neg (by rw [i_lt]; omega), cl1_s, cl1_s, if_pos (i_eq.mpr ah.symm), q_ofBand3 h b1l, cl1_s, q_ofBand3 h b3l, cl1_s, uhd_rk h b1l r1, uhd_rk h b3l r3]
        rcases ah2 with q | ⟨q, q'⟩
        · rw [if_pos (i_lt.mpr q)]
          exact f2
        · rw [if_neg (by rw [i_lt]; omega), cl1_s, cl1_s, if_pos (i_eq.mpr q), if_neg (nI_ge (by omega) (by omega))]
          exact f2
    · rw [n3 (fun b hb hr z => c' ⟨b, hb, hr, z⟩), if_pos rfl]
      exact f2
  · have h0 : ∀ b, b < 4 → M 25 b = 5 → un M b ≠ p := fun b hb hr z => c ⟨b, hb, hr, z⟩
    rw [n1 h0, n3 (fun b hb _ => un_next (by omega) h0 hb), if_pos rfl, if_pos rfl]
    exact f1
theorem p_ranked (h : INV n Z F) : fL_areRanked Z = some 1 := by
  obtain ⟨M, S, C, E, P, h, _, _⟩ := h
  unfold fL_areRanked
  show lf2 (fL_areRanked_4 Z) (96 + 1 + 1 + 1 + 1) 1 (nI 0) = some 1
  rw [rk_s h (by omega), rk_s h (by omega), rk_s h (by omega), lf2_s, ar4, if_pos (by decide)]
  rfl
end PL4
