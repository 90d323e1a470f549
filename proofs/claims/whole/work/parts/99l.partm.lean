/-! PURE PART. The model lays the best parts. -/
def men (o : Option Nat) : Nat := match o with
  | none => 1000000
  | some v => v
theorem men_n : men none = 1000000 := rfl
theorem men_s (v : Nat) : men (some v) = v := rfl
section URPM
variable {n : Nat} {Z : CZ} {M : MT} {S C : Nat → Nat} {E P : Nat → Nat → Nat} {b : Nat} {out : Int32}
/-- what the laying may write -/
def mzf (M M' : MT) : Prop := ∀ k, k ≠ 27 → k ≠ 28 → M' k = M k
theorem mzf.uRR {M' : MT} (hz : mzf M M') (h : uRR n Z M S C E P) : uRR n Z M' S C E P := h.scr (fun k _ _ _ _ _ k7 k8 => hz k k7 k8)
theorem mzf.eto {M' : MT} (hz : mzf M M') {p k : Nat} {same : Prop} : uto M' P b p k same = uto M P b p k same := by
  unfold uto lpp nto lyo
  rw [hz 18 (by omega) (by omega), hz 11 (by omega) (by omega)]
theorem mzf.eins {M' : MT} (hz : mzf M M') {p k : Nat} : uins M' b p (lyo M' P b k) = uins M b p (lyo M P b k) := by
  unfold uins lpp nto lyo
  rw [hz 18 (by omega) (by omega), hz 11 (by omega) (by omega)]
theorem lst_eq {ph p : Nat} (hph : ph ≤ 6) (hp : p < ph) : (nI p = nI ph - 1) = (p + 1 = ph) := by
  rw [u_s1 (by omega), nIe (by omega) (by omega)]
  exact propext ⟨fun q => by omega, fun q => by omega⟩
theorem lst_le {ph p : Nat} (hph : ph ≤ 6) (hp : p < ph) : (nI ph - 1 ≤ nI p) = (p + 1 = ph) := by
  rw [u_s1 (by omega), nIle (by omega) (by omega)]
  exact propext ⟨fun q => by omega, fun q => by omega⟩
theorem lst_lt {ph p : Nat} (hph : ph ≤ 6) (hp : p ≤ ph) : (nI ph - 1 < nI p) = (p = ph) := by
  by_cases h0 : ph = 0
  · rw [h0, show p = 0 by omega]
    exact propext ⟨fun _ => rfl, fun _ => by decide⟩
  · rw [u_s1 (by omega), nIlt (by omega) (by omega)]
    exact propext ⟨fun q => by omega, fun q => by omega⟩
/-- the least way on, from the seat k -/
theorem m_min_l (h : uRR n Z M S C E P) (hb : b < 4) {p k : Nat} (hp : p + 1 < C b / 4) (hk : k < S b) {k14 : Int32 → Int32 → Int32 → Int32 → MT → Option (Int32 × MT)} {k22 : Int32 → Int32 → Int32 → Int32 → Int32 → MT → Option (Int32 × MT)} (row : Nat → Option Nat) (hrow : ∀ k', k' < S b → M 27 (8 * (p + 1) + k') = nI (men (row k'))) (hbd : ∀ k' w, k' < S b → row k' = some w → w ≤ 144) : ∀ (d x fuel : Nat) (l : Int32), x + d = S b → d < fuel → ((l = nI 1000000 ∧ pNo row x) ∨ ∃ k0 v0, l = nI v0 ∧ pBest row (uf M P b (p + 1) (nI k)) x k0 v0) → ∃ l' : Int32, lf8 (fX7_lays_50 k14 k22) fuel (nI b) out (nI (C b / 4) - 1) (nI p) (nI k) l (nI x) M = fX7_lays_120 k14 k22 (nI b) out (nI (C b / 4) - 1) (nI p) (nI k) l' M ∧ ((l' = nI 1000000 ∧ pNo row (S b)) ∨ ∃ k0 v0, l' = nI v0 ∧ pBest row (uf M P b (p + 1) (nI k)) (S b) k0 v0)
  | _, _, 0, _, _, hf, _ => absurd hf (by omega)
  | 0, x, fuel + 1, l, hx, _, hi => by
    have hS := h.nS hb
    have ex : x = S b := by omega
    subst ex
    refine ⟨l, ?_, hi⟩
    rw [lf8_s]
    unfold fX7_lays_50
    rw [gdn hb (by omega), nIc (by omega), hS.2, if_pos (nI_le (by omega) (by omega))]
  | d + 1, x, fuel + 1, l, hx, hf, hi => by
    have hS := h.nS hb
    have hC := (h.nC hb).1
    have hxS : x < S b := by omega
    obtain ⟨u, hu⟩ : ∃ u, u = uf M P b (p + 1) (nI k) x := ⟨_, rfl⟩
    have u6 : u ≤ 6 := by
      rw [hu]
      exact uto_le h hb (by omega)
    have step : ∀ l1 : Int32, (if l ≤ nI (men (row x) + u) then l1 = l else l1 = nI (men (row x) + u)) → lf8 (fX7_lays_50 k14 k22) (fuel + 1) (nI b) out (nI (C b / 4) - 1) (nI p) (nI k) l (nI x) M = lf8 (fX7_lays_50 k14 k22) fuel (nI b) out (nI (C b / 4) - 1) (nI p) (nI k) l1 (nI (x + 1)) M := fun l1 hl => by
      rw [lf8_s]
      rw [show fX7_lays_50 k14 k22 (lf8 (fX7_lays_50 k14 k22) fuel) (nI b) out (nI (C b / 4) - 1) (nI p) (nI k) l (nI x) M = gd (gin (nI b) 4) ((if (M 15 (Int32.toNatClampNeg (nI b))) ≤ nI x then fX7_lays_120 k14 k22 (nI b) out (nI (C b / 4) - 1) (nI p) (nI k) l M else (if nI (C b / 4) - 1 ≤ nI p then fX7_lays_120 k14 k22 (nI b) out (nI (C b / 4) - 1) (nI p) (nI k) l M else gd (gin (((8 : Int32) * (nI p + (1 : Int32))) + nI x) 48) (cl1 (fX7_between (nI b) (nI p + (1 : Int32)) (nI x) (nI k) M) (fun v9 => bnd ((M 27 (Int32.toNatClampNeg (((8 : Int32) * (nI p + (1 : Int32))) + nI x))) + v9) (fun v11 => (if l ≤ v11 then lf8 (fX7_lays_50 k14 k22) fuel (nI b) out (nI (C b / 4) - 1) (nI p) (nI k) l (nI x + 1) M else lf8 (fX7_lays_50 k14 k22) fuel (nI b) out (nI (C b / 4) - 1) (nI p) (nI k) v11 (nI x + 1) M))))))) from rfl]
      rw [gdn hb (by omega), nIc (by omega), hS.2, if_neg (nI_ge hxS (by omega)), if_neg (by rw [lst_le (by omega) (by omega)]; omega), u_a1, u_l8, nI_add, gdn (by omega) (by omega), nIc (by omega), m_between h hb (by omega) (by omega) hxS, cl1_s, bnd_e, hrow x hxS, show uto M P b (p + 1) x (nI x = nI k) = u from hu.symm, nI_add, u_a1]
      by_cases hc : l ≤ nI (men (row x) + u)
      · rw [if_pos hc] at hl ⊢
        rw [hl]
      · rw [if_neg hc] at hl ⊢
        rw [hl]
    rcases hw : row x with _ | w
    · rw [hw, men_n] at step
      have hl : l ≤ nI (1000000 + u) := by
        rcases hi with ⟨i1, _⟩ | ⟨k0, v0, i1, i2⟩
        · rw [i1]
          exact nI_le (by omega) (by omega)
        · obtain ⟨j1, ⟨y, j2, j3⟩, _⟩ := i2
          have := hbd k0 y (by omega) j2
          have : uf M P b (p + 1) (nI k) k0 ≤ 6 := uto_le h hb (by omega)
          rw [i1]
          exact nI_le (by omega) (by omega)
      rw [step l (by rw [if_pos hl])]
      refine m_min_l h hb hp hk row hrow hbd d (x + 1) fuel l (by omega) (by omega) ?_
      rcases hi with ⟨i1, i2⟩ | ⟨k0, v0, i1, i2⟩
      · refine Or.inl ⟨i1, fun k' hk' => ?_⟩
        by_cases e : k' = x
        · rw [e, hw]
        · exact i2 k' (by omega)
      · exact Or.inr ⟨k0, v0, i1, i2.add (fun w hw' => by rw [hw] at hw'; cases hw')⟩
    · have w144 := hbd x w hxS hw
      rw [hw, men_s] at step
      rcases hi with ⟨i1, i2⟩ | ⟨k0, v0, i1, i2⟩
      · rw [step (nI (w + u)) (by rw [i1, if_neg (nI_ge (by omega) (by omega))])]
        refine m_min_l h hb hp hk row hrow hbd d (x + 1) fuel _ (by omega) (by omega) (Or.inr ⟨x, w + u, rfl, ?_⟩)
        rw [hu]
        exact pBest.new hw (fun k' y hk' hy => by
          rw [i2 k' hk'] at hy
          cases hy)
      · have v0b : v0 ≤ 150 := by
          obtain ⟨j1, ⟨y, j2, j3⟩, _⟩ := i2
          have := hbd k0 y (by omega) j2
          have : uf M P b (p + 1) (nI k) k0 ≤ 6 := uto_le h hb (by omega)
          omega
        by_cases hle : v0 ≤ w + u
        · rw [step l (by rw [i1, if_pos (nI_le hle (by omega))])]
          refine m_min_l h hb hp hk row hrow hbd d (x + 1) fuel l (by omega) (by omega) (Or.inr ⟨k0, v0, i1, i2.add (fun y hy => ?_)⟩)
          rw [hw] at hy
          cases hy
          rw [← hu]
          exact hle
        · rw [step (nI (w + u)) (by rw [i1, if_neg (nI_ge (by omega) (by omega))])]
          refine m_min_l h hb hp hk row hrow hbd d (x + 1) fuel _ (by omega) (by omega) (Or.inr ⟨x, w + u, rfl, ?_⟩)
          rw [hu]
          refine pBest.new hw (fun k' y hk' hy => ?_)
          have := i2.2.2.1 k' y hk' hy
          omega
/-- a cell laid -/
theorem m_cell (h : uRR n Z M S C E P) (hb : b < 4) {p k : Nat} (hp : p < C b / 4) (hk : k < S b) {k14 : Int32 → Int32 → Int32 → Int32 → MT → Option (Int32 × MT)} {k22 : Int32 → Int32 → Int32 → Int32 → Int32 → MT → Option (Int32 × MT)} {M' : MT} (hz : mzf M M') (hrow : p + 1 < C b / 4 → ∀ k', k' < S b → M' 27 (8 * (p + 1) + k') = nI (men (uR' M P (S b) b (C b / 4) out (p + 1) k'))) : (if nI p = nI (C b / 4) - 1 then fX7_lays_45 k14 k22 (nI b) out (nI (C b / 4) - 1) (nI p) (nI k) 0 M' else fX7_lays_45 k14 k22 (nI b) out (nI (C b / 4) - 1) (nI p) (nI k) 1000000 M') = k22 (nI b) out (nI (C b / 4) - 1) (nI p) (nI (k + 1)) (va_up M' 27 (upd (M' 27) (8 * p + k) (nI (men (uR' M P (S b) b (C b / 4) out p k))))) := by
  have h' := hz.uRR h
  have hS := h'.nS hb
  have hnl := h'.nl.1
  have hC := (h.nC hb).1
  obtain ⟨p1, p2, p3, p4⟩ := h'.2.2.2.2.2.2.1.2.1 b k hb hk
  obtain ⟨l1, l2, l3⟩ := h'.ly hb hk
  have e207 : ∀ v : Int32, fX7_lays_207 k14 k22 (nI b) out (nI (C b / 4) - 1) (nI p) (nI k) v (nI (8 * p + k)) M' = k22 (nI b) out (nI (C b / 4) - 1) (nI p) (nI (k + 1)) (va_up M' 27 (upd (M' 27) (8 * p + k) v)) := fun v => by
    unfold fX7_lays_207
    rw [gdn (by omega) (by omega), bnd_e, bnd_e, nIc (by omega), u_a1]
  have e156 : ∀ w, fX7_lays_156 k14 k22 (nI b) out (nI (C b / 4) - 1) (nI p) (nI k) (nI w) 1 M' = k22 (nI b) out (nI (C b / 4) - 1) (nI p) (nI (k + 1)) (va_up M' 27 (upd (M' 27) (8 * p + k) (nI (uins M b p (lyo M P b k) + w)))) := fun w => by
    unfold fX7_lays_156
    rw [if_neg (by decide), u_l8, u_l8, nI_add, nI_add, gdn (by omega) (by omega), nIc (by omega), p4, gdn (by omega) (by omega), nIc (by omega), l1, m_within h' hb (by omega) l3, cl1_s, nI_add, hz.eins]
    exact e207 _
  have e155 : ∀ l : Int32, fX7_lays_155 k14 k22 (nI b) out (nI (C b / 4) - 1) (nI p) (nI k) l M' = k22 (nI b) out (nI (C b / 4) - 1) (nI p) (nI (k + 1)) (va_up M' 27 (upd (M' 27) (8 * p + k) (nI 1000000))) := fun l => by
    unfold fX7_lays_155 fX7_lays_156
    rw [if_pos (by decide), u_l8, nI_add]
    exact e207 _
  have k19 : M' 19 = M 19 := hz 19 (by omega) (by omega)
  have e120 : ∀ l : Int32, fX7_lays_120 k14 k22 (nI b) out (nI (C b / 4) - 1) (nI p) (nI k) l M' = (if M 19 (6 * (8 * b + k) + p) = 1 then (if nI k = out then fX7_lays_155 k14 k22 (nI b) out (nI (C b / 4) - 1) (nI p) (nI k) l M' else (if (1000000 : Int32) ≤ l then fX7_lays_155 k14 k22 (nI b) out (nI (C b / 4) - 1) (nI p) (nI k) l M' else fX7_lays_156 k14 k22 (nI b) out (nI (C b / 4) - 1) (nI p) (nI k) l 1 M')) else fX7_lays_155 k14 k22 (nI b) out (nI (C b / 4) - 1) (nI p) (nI k) l M') := fun l => by
    unfold fX7_lays_120
    rw [m_at, cl1_s, gdn (by omega) (by omega), nIc (by omega), k19]
  by_cases hl : p + 1 < C b / 4
  · rw [if_neg (by rw [lst_eq (by omega) hp]; omega)]
    have huf : ∀ k', uf M' P b (p + 1) (nI k) k' = uf M P b (p + 1) (nI k) k' := fun k' => hz.eto
    have hbst : ∀ k0 v0, pBest (uR' M P (S b) b (C b / 4) out (p + 1)) (uf M' P b (p + 1) (nI k)) (S b) k0 v0 → pBest (uR' M P (S b) b (C b / 4) out (p + 1)) (uf M P b (p + 1) (nI k)) (S b) k0 v0 := fun k0 v0 q => by
      rw [show uf M' P b (p + 1) (nI k) = uf M P b (p + 1) (nI k) from funext huf] at q
      exact q
    obtain ⟨l', q1, q2⟩ := m_min_l (out := out) (k14 := k14) (k22 := k22) h' hb hl hk _ (hrow hl) (fun k' w hk' hw => uR_le2 h hb (by omega) hl hk' hw) (S b) 0 100 (nI 1000000) (by omega) (by omega) (Or.inl ⟨rfl, fun k' hk' => by omega⟩)
    rw [show fX7_lays_45 k14 k22 (nI b) out (nI (C b / 4) - 1) (nI p) (nI k) 1000000 M' = fX7_lays_120 k14 k22 (nI b) out (nI (C b / 4) - 1) (nI p) (nI k) l' M' from q1, e120, uR_step hl]
    by_cases hk1 : M 19 (6 * (8 * b + k) + p) = 1
    · rw [if_pos hk1]
      by_cases ho : nI k = out
      · rw [if_pos ho, e155, if_neg (fun q => q.2 ho)]
        rfl
      · rw [if_neg ho, if_pos (show M 19 (6 * (8 * b + k) + p) = 1 ∧ ¬ nI k = out from ⟨hk1, ho⟩)]
        rcases q2 with ⟨i1, i2⟩ | ⟨k0, v0, i1, i2⟩
        · rw [i1, if_pos (show (1000000 : Int32) ≤ nI 1000000 by decide), e155, bv_n i2]
          rfl
        · have i3 := hbst k0 v0 i2
          have v0b : v0 ≤ 150 := bv_le (B := 144) (F := 6) (fun k' w hk' hw => uR_le2 h hb (by omega) hl hk' hw) (fun k' hk' => uto_le h hb (by omega)) (bv_s i3)
          rw [i1, if_neg (show ¬ ((1000000 : Int32) ≤ nI v0) from nI_ge (b := 1000000) (by omega) (by omega)), e156, bv_s i3]
          rfl
    · rw [if_neg hk1, e155, if_neg (fun q => hk1 q.1)]
      rfl
  · have hlast : p + 1 = C b / 4 := by omega
    rw [if_pos (by rw [lst_eq (by omega) hp]; exact hlast)]
    have e45 : fX7_lays_45 k14 k22 (nI b) out (nI (C b / 4) - 1) (nI p) (nI k) 0 M' = fX7_lays_120 k14 k22 (nI b) out (nI (C b / 4) - 1) (nI p) (nI k) 0 M' := by
      unfold fX7_lays_45
      show lf8 (fX7_lays_50 k14 k22) (99 + 1) (nI b) out (nI (C b / 4) - 1) (nI p) (nI k) 0 (nI 0) M' = _
      rw [lf8_s]
      unfold fX7_lays_50
      rw [gdn hb (by omega), nIc (by omega), hS.2]
      split
      · rfl
      · rw [if_pos (by rw [lst_le (by omega) hp]; exact hlast)]
    have eR := uR_last (M := M) (P := P) (s := S b) (b := b) (out := out) (ph := C b / 4) (by omega) k
    rw [show C b / 4 - 1 = p by omega] at eR
    rw [e45, e120, eR]
    by_cases hk1 : M 19 (6 * (8 * b + k) + p) = 1
    · rw [if_pos hk1]
      by_cases ho : nI k = out
      · rw [if_pos ho, e155, if_neg (fun q => q.2 ho)]
        rfl
      · rw [if_neg ho, if_pos (show M 19 (6 * (8 * b + k) + p) = 1 ∧ ¬ nI k = out from ⟨hk1, ho⟩), if_neg (show ¬ ((1000000 : Int32) ≤ 0) by decide)]
        exact e156 0
    · rw [if_neg hk1, e155, if_neg (fun q => hk1 q.1)]
      rfl
/-- a row laid -/
theorem m_rowl (h : uRR n Z M S C E P) (hb : b < 4) {p : Nat} (hp : p < C b / 4) {k14 : Int32 → Int32 → Int32 → Int32 → MT → Option (Int32 × MT)} : ∀ (d x fuel : Nat) (M' : MT), x + d = S b → d < fuel → mzf M M' → (p + 1 < C b / 4 → ∀ k', k' < S b → M' 27 (8 * (p + 1) + k') = nI (men (uR' M P (S b) b (C b / 4) out (p + 1) k'))) → (∀ k', k' < x → M' 27 (8 * p + k') = nI (men (uR' M P (S b) b (C b / 4) out p k'))) → ∃ M'' : MT, lf6 (fX7_lays_22 k14) fuel (nI b) out (nI (C b / 4) - 1) (nI p) (nI x) M' = k14 (nI b) out (nI (C b / 4) - 1) (nI p - 1) M'' ∧ mzf M M'' ∧ (∀ j, ¬ (8 * p ≤ j ∧ j < 8 * p + 8) → M'' 27 j = M' 27 j) ∧ ∀ k', k' < S b → M'' 27 (8 * p + k') = nI (men (uR' M P (S b) b (C b / 4) out p k'))
  | _, _, 0, _, _, hf, _, _, _ => absurd hf (by omega)
  | 0, x, fuel + 1, M', hx, _, hz, _, hr => by
    have h' := hz.uRR h
    have hS := h'.nS hb
    refine ⟨M', ?_, hz, fun _ _ => rfl, by rw [show S b = x by omega] at hr ⊢; exact hr⟩
    rw [lf6_s]
    unfold fX7_lays_22
    rw [gdn hb (by omega), nIc (by omega), hS.2, if_pos (nI_le (by omega) (by omega))]
    unfold fX7_lays_214
    rw [bnd_e, u_m1s]
  | d + 1, x, fuel + 1, M', hx, hf, hz, hn, hr => by
    have h' := hz.uRR h
    have hS := h'.nS hb
    have hC := (h.nC hb).1
    have hxS : x < S b := by omega
    have cell := m_cell (k14 := k14) (k22 := lf6 (fX7_lays_22 k14) fuel) h hb hp hxS hz hn
    obtain ⟨M2, a1, a2, a3, a4⟩ := m_rowl h hb hp (k14 := k14) d (x + 1) fuel (va_up M' 27 (upd (M' 27) (8 * p + x) (nI (men (uR' M P (S b) b (C b / 4) out p x))))) (by omega) (by omega) (fun k k1 k2 => by rw [vu_n k1, hz k k1 k2]) (fun hq k' hk' => by rw [vu_s, pk_un (by omega)]; exact hn hq k' hk') (fun k' hk' => by
      rw [vu_s]
      by_cases e : k' = x
      · rw [e, pk_us]
      · rw [pk_un (by omega)]
        exact hr k' (by omega))
    refine ⟨M2, ?_, a2, fun j hj => by rw [a3 j hj, vu_s, pk_un (by omega)], a4⟩
    rw [lf6_s]
    rw [show fX7_lays_22 k14 (lf6 (fX7_lays_22 k14) fuel) (nI b) out (nI (C b / 4) - 1) (nI p) (nI x) M' = gd (gin (nI b) 4) ((if (M' 15 (Int32.toNatClampNeg (nI b))) ≤ nI x then fX7_lays_214 k14 (nI b) out (nI (C b / 4) - 1) (nI p) M' else (if nI p = nI (C b / 4) - 1 then fX7_lays_45 k14 (lf6 (fX7_lays_22 k14) fuel) (nI b) out (nI (C b / 4) - 1) (nI p) (nI x) (0 : Int32) M' else fX7_lays_45 k14 (lf6 (fX7_lays_22 k14) fuel) (nI b) out (nI (C b / 4) - 1) (nI p) (nI x) (1000000 : Int32) M'))) from rfl]
    rw [gdn hb (by omega), nIc (by omega), hS.2, if_neg (nI_ge hxS (by omega)), cell]
    exact a1
/-- all rows laid -/
theorem m_allr (h : uRR n Z M S C E P) (hb : b < 4) : ∀ (d fuel : Nat) (M' : MT), d ≤ C b / 4 → d < fuel → mzf M M' → (∀ q, d ≤ q → q < C b / 4 → ∀ k, k < S b → M' 27 (8 * q + k) = nI (men (uR' M P (S b) b (C b / 4) out q k))) → ∃ M'' : MT, lf5 fX7_lays_14 fuel (nI b) out (nI (C b / 4) - 1) (nI d - 1) M' = fX7_lays_220 (nI b) (nI (C b / 4) - 1) M'' ∧ mzf M M'' ∧ ∀ q, q < C b / 4 → ∀ k, k < S b → M'' 27 (8 * q + k) = nI (men (uR' M P (S b) b (C b / 4) out q k))
  | _, 0, _, _, hf, _, _ => absurd hf (by omega)
  | 0, fuel + 1, M', _, _, hz, hr => by
    refine ⟨M', ?_, hz, fun q hq => hr q (by omega) hq⟩
    rw [lf5_s]
    unfold fX7_lays_14
    rw [if_pos (by decide)]
  | d + 1, fuel + 1, M', hd, hf, hz, hr => by
    have hC := (h.nC hb).1
    have hS := (h.nS hb).1
    obtain ⟨M1, a1, a2, a3, a4⟩ := m_rowl (k14 := lf5 fX7_lays_14 fuel) h hb (show d < C b / 4 by omega) (S b) 0 100 M' (by omega) (by omega) hz (fun hq => hr (d + 1) (by omega) hq) (fun k' hk' => by omega)
    obtain ⟨M2, b1, b2, b3⟩ := m_allr h hb d fuel M1 (by omega) (by omega) a2 (fun q h1 h2 k hk => by
      by_cases e : q = d
      · rw [e]
        exact a4 k hk
      · rw [a3 _ (by omega)]
        exact hr q (by omega) h2 k hk)
    refine ⟨M2, ?_, b2, b3⟩
    rw [nI_pred, lf5_s]
    rw [show fX7_lays_14 (lf5 fX7_lays_14 fuel) (nI b) out (nI (C b / 4) - 1) (nI d) M' = (if nI d < 0 then fX7_lays_220 (nI b) (nI (C b / 4) - 1) M' else lf6 (fX7_lays_22 (lf5 fX7_lays_14 fuel)) 100 (nI b) out (nI (C b / 4) - 1) (nI d) (nI 0) M') from rfl]
    rw [if_neg (nI_pos (by omega)), a1]
    exact b1
end URPM
