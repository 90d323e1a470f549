/-! PURE PART. The model's playing seats. -/
section URLY
variable {n : Nat} {Z : CZ} {M : MT} {S C : Nat → Nat} {E P : Nat → Nat → Nat} {b : Nat} {out : Int32}
/-- the least of a row, seen from its end down to y -/
def pDown (row : Nat → Option Nat) (f : Nat → Nat) (s y k0 v0 : Nat) : Prop := y ≤ k0 ∧ k0 < s ∧ (∃ w, row k0 = some w ∧ v0 = w + f k0) ∧ (∀ k w, y ≤ k → k < s → row k = some w → v0 ≤ w + f k) ∧ ∀ k w, y ≤ k → k < k0 → row k = some w → v0 < w + f k
theorem pDown.best {row : Nat → Option Nat} {f : Nat → Nat} {s k0 v0 : Nat} (h : pDown row f s 0 k0 v0) : pBest row f s k0 v0 := ⟨h.2.1, h.2.2.1, fun k w hk hw => h.2.2.2.1 k w (Nat.zero_le k) hk hw, fun k w hk hw => h.2.2.2.2 k w (Nat.zero_le k) hk hw⟩
/-- the loop over the seats from the last one down, at the phrase p; a plays ahead -/
theorem m_dn (h : uRR n Z M S C E P) (hb : b < 4) {p : Nat} (hp : p < C b / 4) (a : Int32) (ha : 0 < p → M 28 (p - 1) = a) (row : Nat → Option Nat) (hrow : ∀ k', k' < S b → M 27 (8 * p + k') = nI (men (row k'))) (hbd : ∀ k' w, k' < S b → row k' = some w → w ≤ 144) {k227 : Int32 → Int32 → Int32 → Int32 → MT → Option (Int32 × MT)} {al : Int32} : ∀ (y fuel : Nat) (l : Int32) (M' : MT), y ≤ S b → y < fuel → (∀ k, k ≠ 28 → M' k = M k) → (∀ q, q ≠ p → M' 28 q = M 28 q) → ((l = nI 1000000 ∧ ∀ k, y ≤ k → k < S b → row k = none) ∨ ∃ k0 v0, l = nI v0 ∧ pDown row (uf M P b p a) (S b) y k0 v0 ∧ M' 28 p = nI k0) → ∃ (l' : Int32) (M'' : MT), lf7 (fX7_lays_247 k227) fuel (nI b) (nI (C b / 4) - 1) al (nI p) l (nI y - 1) M' = fX7_lays_343 k227 (nI b) (nI (C b / 4) - 1) al (nI p) l' M'' ∧ (∀ k, k ≠ 28 → M'' k = M k) ∧ (∀ q, q ≠ p → M'' 28 q = M 28 q) ∧ ((l' = nI 1000000 ∧ pNo row (S b)) ∨ ∃ k0 v0, l' = nI v0 ∧ pBest row (uf M P b p a) (S b) k0 v0 ∧ M'' 28 p = nI k0)
  | _, 0, _, _, _, hf, _, _, _ => absurd hf (by omega)
  | 0, fuel + 1, l, M', _, _, h1, h2, hi => by
    refine ⟨l, M', ?_, h1, h2, ?_⟩
    · rw [lf7_s]
      unfold fX7_lays_247
      rw [if_pos (by decide)]
    · rcases hi with ⟨i1, i2⟩ | ⟨k0, v0, i1, i2, i3⟩
      · exact Or.inl ⟨i1, fun k hk => i2 k (by omega) hk⟩
      · exact Or.inr ⟨k0, v0, i1, i2.best, i3⟩
  | y + 1, fuel + 1, l, M', hy, hf, h1, h2, hi => by
    have hS := h.nS hb
    have hC := (h.nC hb).1
    have hyS : y < S b := by omega
    have h' : uRR n Z M' S C E P := h.scr (fun k _ _ _ _ _ _ k8 => h1 k k8)
    obtain ⟨u, hu⟩ : ∃ u, u = uf M P b p a y := ⟨_, rfl⟩
    have u6 : u ≤ 6 := by
      rw [hu]
      exact uto_le h hb (by omega)
    -- one seat
    have e320 : ∀ (t0 l1 : Int32), (if l ≤ nI (men (row y) + u) then l1 = l else l1 = nI (men (row y) + u)) → fX7_lays_320 k227 (lf7 (fX7_lays_247 k227) fuel) (nI b) (nI (C b / 4) - 1) al (nI p) l (nI y) (nI (men (row y) + u)) t0 (nI p) M' = lf7 (fX7_lays_247 k227) fuel (nI b) (nI (C b / 4) - 1) al (nI p) l1 (nI y - 1) (va_up M' 28 (upd (M' 28) p t0)) := fun t0 l1 hl => by
      unfold fX7_lays_320 fX7_lays_335
      rw [gdn (by omega) (by omega), bnd_e, bnd_e, bnd_e, nIc (by omega), u_m1s]
      by_cases hc : l ≤ nI (men (row y) + u)
      · rw [if_pos hc] at hl ⊢
        rw [hl]
      · rw [if_neg hc] at hl ⊢
        rw [hl]
    have e292 : ∀ t : Int32, t = nI u → fX7_lays_292 k227 (lf7 (fX7_lays_247 k227) fuel) (nI b) (nI (C b / 4) - 1) al (nI p) l (nI y) t (nI (men (row y))) M' = (if l < nI (men (row y) + u) then fX7_lays_320 k227 (lf7 (fX7_lays_247 k227) fuel) (nI b) (nI (C b / 4) - 1) al (nI p) l (nI y) (nI (men (row y) + u)) (M' 28 p) (nI p) M' else fX7_lays_320 k227 (lf7 (fX7_lays_247 k227) fuel) (nI b) (nI (C b / 4) - 1) al (nI p) l (nI y) (nI (men (row y) + u)) (nI y) (nI p) M') := fun t ht => by
      unfold fX7_lays_292
      rw [ht, nI_add, bnd_e, gdn (by omega) (by omega), nIc (by omega)]
    have e247 : lf7 (fX7_lays_247 k227) (fuel + 1) (nI b) (nI (C b / 4) - 1) al (nI p) l (nI (y + 1) - 1) M' = fX7_lays_292 k227 (lf7 (fX7_lays_247 k227) fuel) (nI b) (nI (C b / 4) - 1) al (nI p) l (nI y) (nI u) (nI (men (row y))) M' := by
      rw [nI_pred, lf7_s]
      rw [show fX7_lays_247 k227 (lf7 (fX7_lays_247 k227) fuel) (nI b) (nI (C b / 4) - 1) al (nI p) l (nI y) M' = (if nI y < 0 then fX7_lays_343 k227 (nI b) (nI (C b / 4) - 1) al (nI p) l M' else gd (gin (((8 : Int32) * nI p) + nI y) 48) ((if nI p = 0 then fX7_lays_292 k227 (lf7 (fX7_lays_247 k227) fuel) (nI b) (nI (C b / 4) - 1) al (nI p) l (nI y) (0 : Int32) (M' 27 (Int32.toNatClampNeg (((8 : Int32) * nI p) + nI y))) M' else gd (gin (nI p - (1 : Int32)) 6) (cl1 (fX7_between (nI b) (nI p) (nI y) (M' 28 (Int32.toNatClampNeg (nI p - (1 : Int32)))) M') (fun v14 => fX7_lays_292 k227 (lf7 (fX7_lays_247 k227) fuel) (nI b) (nI (C b / 4) - 1) al (nI p) l (nI y) v14 (M' 27 (Int32.toNatClampNeg (((8 : Int32) * nI p) + nI y))) M'))))) from rfl]
      rw [if_neg (nI_pos (by omega)), u_l8, nI_add, gdn (by omega) (by omega), nIc (by omega), h1 27 (by omega), hrow y hyS]
      by_cases h0 : p = 0
      · rw [if_pos (show nI p = 0 by rw [h0]; rfl)]
        have : u = 0 := by
          rw [hu, h0]
          exact uto_0
        rw [this]
        rfl
      · rw [if_neg (by rw [nIz (by omega)]; exact h0), u_s1 (by omega), gdn (by omega) (by omega), nIc (by omega), h2 (p - 1) (by omega), ha (by omega), m_between h' hb (by omega) (by omega) hyS, cl1_s]
        rw [show uto M' P b p y (nI y = a) = u from by
          rw [hu]
          unfold uf uto lpp nto lyo
          rw [h1 18 (by omega), h1 11 (by omega)]]
    have go : ∀ (t0 l1 : Int32), lf7 (fX7_lays_247 k227) (fuel + 1) (nI b) (nI (C b / 4) - 1) al (nI p) l (nI (y + 1) - 1) M' = lf7 (fX7_lays_247 k227) fuel (nI b) (nI (C b / 4) - 1) al (nI p) l1 (nI y - 1) (va_up M' 28 (upd (M' 28) p t0)) → ((l1 = nI 1000000 ∧ ∀ k, y ≤ k → k < S b → row k = none) ∨ ∃ k0 v0, l1 = nI v0 ∧ pDown row (uf M P b p a) (S b) y k0 v0 ∧ t0 = nI k0) → ∃ (l' : Int32) (M'' : MT), lf7 (fX7_lays_247 k227) (fuel + 1) (nI b) (nI (C b / 4) - 1) al (nI p) l (nI (y + 1) - 1) M' = fX7_lays_343 k227 (nI b) (nI (C b / 4) - 1) al (nI p) l' M'' ∧ (∀ k, k ≠ 28 → M'' k = M k) ∧ (∀ q, q ≠ p → M'' 28 q = M 28 q) ∧ ((l' = nI 1000000 ∧ pNo row (S b)) ∨ ∃ k0 v0, l' = nI v0 ∧ pBest row (uf M P b p a) (S b) k0 v0 ∧ M'' 28 p = nI k0) := by
      intro t0 l1 e hi1
      rw [e]
      exact m_dn h hb hp a ha row hrow hbd y fuel l1 (va_up M' 28 (upd (M' 28) p t0)) (by omega) (by omega) (fun k hk => by rw [vu_n hk, h1 k hk]) (fun q hq => by rw [vu_s, pk_un hq]; exact h2 q hq) (by
        rcases hi1 with q | ⟨k0, v0, q1, q2, q3⟩
        · exact Or.inl q
        · exact Or.inr ⟨k0, v0, q1, q2, by rw [vu_s, pk_us]; exact q3⟩)
    rcases hw : row y with _ | w
    · rw [hw, men_n] at e320 e292 e247
      rcases hi with ⟨i1, i2⟩ | ⟨k0, v0, i1, i2, i3⟩
      · have hN : ∀ k, y ≤ k → k < S b → row k = none := fun k k1 k2 => by
          by_cases e : k = y
          · rw [e, hw]
          · exact i2 k (by omega) k2
        have hl1 : (if l ≤ nI (1000000 + u) then l = l else l = nI (1000000 + u)) := by
          rw [i1, if_pos (nI_le (by omega) (by omega))]
        by_cases h0 : u = 0
        · refine go (nI y) l ?_ (Or.inl ⟨i1, hN⟩)
          rw [e247, e292 _ rfl, if_neg (by rw [i1, h0]; exact nI_nlt (by omega) (by omega))]
          exact e320 _ _ hl1
        · refine go (M' 28 p) l ?_ (Or.inl ⟨i1, hN⟩)
          rw [e247, e292 _ rfl, if_pos (by rw [i1]; exact nI_lt (by omega) (by omega))]
          exact e320 _ _ hl1
      · have v0b : v0 ≤ 150 := by
          obtain ⟨j1, j2, ⟨z, j3, j4⟩, _⟩ := i2
          have := hbd k0 z j2 j3
          have : uf M P b p a k0 ≤ 6 := uto_le h hb (by omega)
          omega
        refine go (M' 28 p) l ?_ (Or.inr ⟨k0, v0, i1, ⟨by have := i2.1; omega, i2.2.1, i2.2.2.1, fun k z k1 k2 hz => ?_, fun k z k1 k2 hz => ?_⟩, i3⟩)
        · rw [e247, e292 _ rfl, if_pos (by rw [i1]; exact nI_lt (by omega) (by omega))]
          exact e320 _ _ (by rw [i1, if_pos (nI_le (by omega) (by omega))])
        · by_cases e : k = y
          · rw [e, hw] at hz
            cases hz
          · exact i2.2.2.2.1 k z (by omega) k2 hz
        · by_cases e : k = y
          · rw [e, hw] at hz
            cases hz
          · exact i2.2.2.2.2 k z (by omega) k2 hz
    · have w144 := hbd y w hyS hw
      rw [hw, men_s] at e320 e292 e247
      rcases hi with ⟨i1, i2⟩ | ⟨k0, v0, i1, i2, i3⟩
      · refine go (nI y) (nI (w + u)) ?_ (Or.inr ⟨y, w + u, rfl, ⟨Nat.le_refl y, hyS, ⟨w, hw, by rw [hu]⟩, fun k z k1 k2 hz => ?_, fun k z k1 k2 hz => by omega⟩, rfl⟩)
        · rw [e247, e292 _ rfl, if_neg (by rw [i1]; exact nI_nlt (by omega) (by omega))]
          exact e320 _ _ (by rw [i1, if_neg (nI_ge (by omega) (by omega))])
        · by_cases e : k = y
          · rw [e, hw] at hz
            cases hz
            rw [e, hu]
            exact Nat.le_refl _
          · rw [i2 k (by omega) k2] at hz
            cases hz
      · have v0b : v0 ≤ 150 := by
          obtain ⟨j1, j2, ⟨z, j3, j4⟩, _⟩ := i2
          have := hbd k0 z j2 j3
          have : uf M P b p a k0 ≤ 6 := uto_le h hb (by omega)
          omega
        by_cases hlt : v0 < w + u
        · refine go (M' 28 p) l ?_ (Or.inr ⟨k0, v0, i1, ⟨by have := i2.1; omega, i2.2.1, i2.2.2.1, fun k z k1 k2 hz => ?_, fun k z k1 k2 hz => ?_⟩, i3⟩)
          · rw [e247, e292 _ rfl, if_pos (by rw [i1]; exact nI_lt hlt (by omega))]
            exact e320 _ _ (by rw [i1, if_pos (nI_le (by omega) (by omega))])
          · by_cases e : k = y
            · rw [e, hw] at hz
              cases hz
              rw [e, ← hu]
              omega
            · exact i2.2.2.2.1 k z (by omega) k2 hz
          · by_cases e : k = y
            · rw [e, hw] at hz
              cases hz
              rw [e, ← hu]
              exact hlt
            · exact i2.2.2.2.2 k z (by omega) k2 hz
        · refine go (nI y) (nI (w + u)) ?_ (Or.inr ⟨y, w + u, rfl, ⟨Nat.le_refl y, hyS, ⟨w, hw, by rw [hu]⟩, fun k z k1 k2 hz => ?_, fun k z k1 k2 hz => by omega⟩, rfl⟩)
          · rw [e247, e292 _ rfl, if_neg (by rw [i1]; exact nI_nlt (by omega) (by omega))]
            refine e320 _ _ ?_
            rw [i1]
            by_cases heq : v0 ≤ w + u
            · rw [if_pos (nI_le heq (by omega)), show w + u = v0 by omega]
            · rw [if_neg (nI_ge (by omega) (by omega))]
          · by_cases e : k = y
            · rw [e, hw] at hz
              cases hz
              rw [e, hu]
              exact Nat.le_refl _
            · have := i2.2.2.2.1 k z (by omega) k2 hz
              omega
/-- all phrases played -/
theorem m_fw (h : uRR n Z M S C E P) (hb : b < 4) (hr : ∀ q, q < C b / 4 → ∀ k, k < S b → M 27 (8 * q + k) = nI (men (uR' M P (S b) b (C b / 4) out q k))) : ∀ (d p fuel : Nat) (al : Int32) (M' : MT), p + d = C b / 4 → d < fuel → (∀ k, k ≠ 28 → M' k = M k) → (urdy M P (S b) b (C b / 4) out → ∀ q, q < p → M' 28 q = nI (uch M P (S b) b (C b / 4) out q)) → ∃ (al' : Int32) (M'' : MT), lf5 fX7_lays_227 fuel (nI b) (nI (C b / 4) - 1) al (nI p) M' = some (al', M'') ∧ (∀ k, k ≠ 28 → M'' k = M k) ∧ (urdy M P (S b) b (C b / 4) out → ∀ q, q < C b / 4 → M'' 28 q = nI (uch M P (S b) b (C b / 4) out q)) ∧ (0 < p ∨ C b / 4 = 0 → al' = al) ∧ (p = 0 → 0 < C b / 4 → (pNo (uR' M P (S b) b (C b / 4) out 0) (S b) ∧ al' = nI 1000000) ∨ (¬ pNo (uR' M P (S b) b (C b / 4) out 0) (S b) ∧ al' = nI (uval M P (S b) b (C b / 4) out)))
  | _, _, 0, _, _, _, hf, _, _ => absurd hf (by omega)
  | 0, p, fuel + 1, al, M', hp, _, h1, hq => by
    have hC := (h.nC hb).1
    refine ⟨al, M', ?_, h1, by rw [show C b / 4 = p by omega] at hq ⊢; exact hq, fun _ => rfl, fun q1 q2 => by omega⟩
    rw [lf5_s]
    unfold fX7_lays_227
    rw [if_pos (by rw [lst_lt (by omega) (by omega)]; omega)]
    rfl
  | d + 1, p, fuel + 1, al, M', hp, hf, h1, hq => by
    have hC := (h.nC hb).1
    have hS := h.nS hb
    have hpC : p < C b / 4 := by omega
    have h' : uRR n Z M' S C E P := h.scr (fun k _ _ _ _ _ _ k8 => h1 k k8)
    obtain ⟨a, ha⟩ : ∃ a, a = (if p = 0 then -1 else M' 28 (p - 1)) := ⟨_, rfl⟩
    obtain ⟨l', M1, a1, a2, a3, a4⟩ := m_dn (k227 := lf5 fX7_lays_227 fuel) (al := al) h' hb hpC a (fun h0 => by rw [ha, if_neg (by omega)]) (uR' M P (S b) b (C b / 4) out p) (fun k' hk' => by rw [h1 27 (by omega)]; exact hr p hpC k' hk') (fun k' w hk' hw => uR_le2 h hb (by omega) hpC hk' hw) (S b) 100 (nI 1000000) M' (Nat.le_refl _) (by omega) (fun _ _ => rfl) (fun _ _ => rfl) (Or.inl ⟨rfl, fun k k1 k2 => by omega⟩)
    have huf : uf M' P b p a = uf M P b p a := funext fun k => by
      unfold uf uto lpp nto lyo
      rw [h1 18 (by omega), h1 11 (by omega)]
    rw [huf] at a4
    have m1 : ∀ k, k ≠ 28 → M1 k = M k := fun k hk => (a2 k hk).trans (h1 k hk)
    have e227 : lf5 fX7_lays_227 (fuel + 1) (nI b) (nI (C b / 4) - 1) al (nI p) M' = lf5 fX7_lays_227 fuel (nI b) (nI (C b / 4) - 1) (if p = 0 then l' else al) (nI (p + 1)) M1 := by
      rw [lf5_s]
      rw [show fX7_lays_227 (lf5 fX7_lays_227 fuel) (nI b) (nI (C b / 4) - 1) al (nI p) M' = (if nI (C b / 4) - 1 < nI p then fX7_lays_363 al M' else gd (gin (nI b) 4) (bnd ((M' 15 (Int32.toNatClampNeg (nI b))) - (1 : Int32)) (fun v5 => lf7 (fX7_lays_247 (lf5 fX7_lays_227 fuel)) 100 (nI b) (nI (C b / 4) - 1) al (nI p) (nI 1000000) v5 M'))) from rfl]
      rw [if_neg (by rw [lst_lt (by omega) (by omega)]; omega), gdn hb (by omega), nIc (by omega), (h'.nS hb).2, bnd_e, a1]
      unfold fX7_lays_343 fX7_lays_355
      rw [bnd_e, bnd_e, u_a1]
      by_cases h0 : p = 0
      · rw [if_pos (show nI p = 0 by rw [h0]; rfl), if_pos h0]
      · rw [if_neg (by rw [nIz (by omega)]; exact h0), if_neg h0]
    have hok : urdy M P (S b) b (C b / 4) out → M1 28 p = nI (uch M P (S b) b (C b / 4) out p) := fun hy => by
      rcases a4 with ⟨_, i2⟩ | ⟨k0, v0, i1, i2, i3⟩
      · exact absurd i2 (hy.2 p hpC)
      · have ea : a = uah' M P (S b) b (C b / 4) out p := by
          rw [ha]
          unfold uah'
          by_cases h0 : p = 0
          · rw [if_pos h0, if_pos h0]
          · rw [if_neg h0, if_neg h0, hq hy (p - 1) (by omega)]
        rw [ea] at i2
        rw [i3, uch_eq i2]
    obtain ⟨al', M2, b1, b2, b3, b4, b5⟩ := m_fw h hb hr d (p + 1) fuel (if p = 0 then l' else al) M1 (by omega) (by omega) m1 (fun hy q hqp => by
      by_cases e : q = p
      · rw [e]
        exact hok hy
      · rw [a3 q e]
        exact hq hy q (by omega))
    have e4 := b4 (Or.inl (by omega))
    refine ⟨al', M2, by rw [e227]; exact b1, b2, b3, fun q => ?_, fun h0 _ => ?_⟩
    · rw [e4, if_neg (by omega)]
    · rw [if_pos h0] at e4
      subst h0
      rw [e4]
      rcases a4 with ⟨i1, i2⟩ | ⟨k0, v0, i1, i2, i3⟩
      · exact Or.inl ⟨i2, i1⟩
      · have ea : a = -1 := by
          rw [ha, if_pos rfl]
        rw [ea] at i2
        obtain ⟨u1, _, _⟩ := uval_ok i2
        exact Or.inr ⟨fun q => i2.no q, by rw [i1, u1]⟩
theorem uval_le (h : uRR n Z M S C E P) (hb : b < 4) (hy : urdy M P (S b) b (C b / 4) out) : uval M P (S b) b (C b / 4) out ≤ 144 := by
  have hC := (h.nC hb).1
  obtain ⟨k0, v0, hbst⟩ := pBest_ex (f := uf M P b 0 (-1)) (S b) (hy.2 0 hy.1)
  obtain ⟨u1, u2, u3⟩ := uval_ok hbst
  rw [u1]
  exact uR_le2 h hb (by omega) hy.1 hbst.1 u3
theorem m_lays (h : uRR n Z M S C E P) (hb : b < 4) : ∃ M' : MT, mzf M M' ∧ ((urdy M P (S b) b (C b / 4) out ∧ fX7_lays (nI b) out M = some (nI (uval M P (S b) b (C b / 4) out), M') ∧ ∀ q, q < C b / 4 → M' 28 q = nI (uch M P (S b) b (C b / 4) out q)) ∨ (¬ urdy M P (S b) b (C b / 4) out ∧ fX7_lays (nI b) out M = some (nI 1000000, M'))) := by
  have hC := h.nC hb
  have hS := (h.nS hb).1
  obtain ⟨M1, a1, a2, a3⟩ := m_allr (out := out) h hb (C b / 4) 100 M (Nat.le_refl _) (by omega) (fun _ _ _ => rfl) (fun q h1 h2 => by omega)
  have h1 := a2.uRR h
  have e0 : fX7_lays (nI b) out M = fX7_lays_220 (nI b) (nI (C b / 4) - 1) M1 := by
    unfold fX7_lays
    rw [gdn hb (by omega), nIc (by omega), hC.2.1, u_d4 (by omega), bnd_e]
    exact a1
  -- the rows speak of M, and of M1 as well
  have eRow : ∀ j, urow M1 P (S b) b (C b / 4) out j = urow M P (S b) b (C b / 4) out j := fun j => by
    induction j with
    | zero =>
      funext k
      show (if M1 19 _ = 1 ∧ _ then some (uins M1 b _ (lyo M1 P b k)) else none) = (if M 19 _ = 1 ∧ _ then some (uins M b _ (lyo M P b k)) else none)
      rw [a2 19 (by omega) (by omega), a2.eins]
    | succ j ih =>
      funext k
      show (if M1 19 _ = 1 ∧ _ then (bv (urow M1 P (S b) b (C b / 4) out j) (uf M1 P b _ (nI k)) (S b)).map (fun v => uins M1 b _ (lyo M1 P b k) + v) else none) = (if M 19 _ = 1 ∧ _ then (bv (urow M P (S b) b (C b / 4) out j) (uf M P b _ (nI k)) (S b)).map (fun v => uins M b _ (lyo M P b k) + v) else none)
      rw [a2 19 (by omega) (by omega), a2.eins, ih, show uf M1 P b (C b / 4 - 1 - j) (nI k) = uf M P b (C b / 4 - 1 - j) (nI k) from funext fun k' => a2.eto]
  have eR : ∀ p, uR' M1 P (S b) b (C b / 4) out p = uR' M P (S b) b (C b / 4) out p := fun p => eRow _
  have eF : ∀ p a, uf M1 P b p a = uf M P b p a := fun p a => funext fun k' => a2.eto
  have eCh : ∀ p, uch M1 P (S b) b (C b / 4) out p = uch M P (S b) b (C b / 4) out p := fun p => by
    induction p with
    | zero =>
      show am (uR' M1 P (S b) b (C b / 4) out 0) (uf M1 P b 0 (-1)) (S b) = am (uR' M P (S b) b (C b / 4) out 0) (uf M P b 0 (-1)) (S b)
      rw [eR, eF]
    | succ p ih =>
      show am (uR' M1 P (S b) b (C b / 4) out (p + 1)) (uf M1 P b (p + 1) (nI (uch M1 P (S b) b (C b / 4) out p))) (S b) = am (uR' M P (S b) b (C b / 4) out (p + 1)) (uf M P b (p + 1) (nI (uch M P (S b) b (C b / 4) out p))) (S b)
      rw [eR, ih, eF]
  have eV : uval M1 P (S b) b (C b / 4) out = uval M P (S b) b (C b / 4) out := by
    unfold uval
    rw [eR, eF]
  have eY : urdy M1 P (S b) b (C b / 4) out = urdy M P (S b) b (C b / 4) out := by
    unfold urdy
    simp only [eR]
  obtain ⟨al', M2, b1, b2, b3, b4, b5⟩ := m_fw (out := out) h1 hb (fun q hq k hk => by rw [eR]; exact a3 q hq k hk) (C b / 4) 0 100 (nI 1000000) M1 (by omega) (by omega) (fun _ _ => rfl) (fun _ q hq => by omega)
  have e220 : fX7_lays_220 (nI b) (nI (C b / 4) - 1) M1 = some (al', M2) := b1
  rw [eY] at b3
  simp only [eCh] at b3
  refine ⟨M2, fun k k1 k2 => (b2 k k2).trans (a2 k k1 k2), ?_⟩
  rw [e0, e220]
  by_cases h0 : 0 < C b / 4
  · have b5' := b5 rfl h0
    rw [eR, eV] at b5'
    rcases b5' with ⟨n1, n2⟩ | ⟨n1, n2⟩
    · exact Or.inr ⟨fun hy => hy.2 0 h0 n1, by rw [n2]⟩
    · have hy : urdy M P (S b) b (C b / 4) out := ⟨h0, fun q hq hn => n1 (uR_no0 q hq hn)⟩
      exact Or.inl ⟨hy, by rw [n2], b3 hy⟩
  · exact Or.inr ⟨fun hy => h0 hy.1, by rw [b4 (Or.inr (by omega))]⟩
end URLY
