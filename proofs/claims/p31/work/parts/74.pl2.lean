/-! PURE PART. The law's steps: a note changes; a drill. -/
section PL2
variable {n : Nat} {Z : CZ} {M : MT} {S C : Nat → Nat} {E P : Nat → Nat → Nat} {F : Nat → Int32}
theorem uRR.nt12 (h : uRR n Z M S C E P) {b j : Nat} (hb : b < 4) (hj : j < 24) : ∃ v, v < 12 ∧ M 18 (24 * b + j) = nI v := ((h.2.2.2.2.2.2.2.2.2.1 b hb).2.2.2 j hj).2
theorem p_changed (h : uRR n Z M S C E P) {b pl v : Nat} (hb : b < 4) (hpl : pl < C b) (hv : v ≤ 11) : ∃ (Z' : CZ) (M' : MT), fL_isChanged (nI b) (nI pl) (nI v) Z = some (1, Z') ∧ uRR n Z' M' S C E P ∧ Z'.2 = Z.2 ∧ ∀ k, k ≠ 18 → k ≠ 19 → M' k = M k := by
  have hS := (h.nS hb).1
  have hC := (h.nC hb).1
  obtain ⟨m, m12, em⟩ := h.nt12 hb (show pl < 24 by omega)
  -- what comes behind the change
  have main : ∃ (Z' : CZ) (M' : MT), uRR n Z' M' S C E P ∧ Z'.2 = Z.2 ∧ (∀ k, k ≠ 18 → k ≠ 19 → M' k = M k) ∧ fX6_change_n (nI b) (nI pl) (nI v) Z = some (nI m, Z') ∧ fL_isChanged_116 (nI b) (nI pl) (nI v) Z' = some (1, Z') ∧ ∀ k, k < S b → M' 19 (6 * (8 * b + k) + pl / 4) = if ¬ nI m = nI v ∧ M 19 (6 * (8 * b + k) + pl / 4) = 1 then 2 else M 19 (6 * (8 * b + k) + pl / 4) := by
    by_cases he : nI v = M 18 (24 * b + pl)
    · have e := nb_change _ _ _ _ _ _ (k_change_eq h hb hpl hv he)
      refine ⟨Z, M, h, rfl, fun _ _ _ => rfl, by rw [e, em], ?_, fun k hk => ?_⟩
      · unfold fL_isChanged_116
        rw [e, cl2_s, if_pos he.symm]
        rfl
      · rw [if_neg (fun q => q.1 (by rw [← em, he]))]
    · obtain ⟨Z', M', h', hz, mk, m18, m19, e⟩ := k_change h hb hpl hv he
      have e' := nb_change _ _ _ _ _ _ e
      have he' : nI v = M' 18 (24 * b + pl) := by rw [m18, pk_us]
      have e2 := nb_change _ _ _ _ _ _ (k_change_eq h' hb hpl hv he')
      refine ⟨Z', M', h', hz, mk, by rw [e', em], ?_, fun k hk => ?_⟩
      · unfold fL_isChanged_116
        rw [e2, cl2_s, if_pos he'.symm]
        rfl
      · rw [m19 k hk]
        by_cases q : M 19 (6 * (8 * b + k) + pl / 4) = 1
        · rw [if_pos q, if_pos ⟨fun z => he (by rw [em]; exact z.symm), q⟩]
        · rw [if_neg q, if_neg (fun z => q z.2)]
  obtain ⟨Z', M', h', hz, mk, e, fin, m19⟩ := main
  refine ⟨Z', M', ?_, h', hz, mk⟩
  have e34 : ∀ (x6 t0 : Int32), (x6 = 0 ∨ (x6 = 1 ∧ pl / 4 < C b / 4 ∧ 0 < S b ∧ t0 = M 19 (6 * (8 * b + (S b - 1)) + pl / 4))) → fL_isChanged_56 (nI b) (nI pl) (nI v) (nI (pl / 4)) (nI (S b)) x6 t0 Z = some (1, Z') := fun x6 t0 hx => by
    unfold fL_isChanged_56
    rw [e, cl2_s, if_neg (nI_pos (by omega)), if_neg (show ¬ ((12 : Int32) ≤ nI m) from nI_ge (b := 12) m12 (by omega))]
    rcases hx with hx | ⟨hx, h4, h0, ht⟩
    · rw [if_pos hx]
      exact fin
    · have e113 : ∀ t t', t = t' → fL_isChanged_113 (nI b) (nI pl) (nI v) t' t Z' = some (1, Z') := fun t t' htt => by
        unfold fL_isChanged_113
        rw [if_pos htt]
        exact fin
      rw [hx, if_neg (by decide), u_s1 (by omega), q_knows h' hb (show S b - 1 < S b by omega) h4, cl1_s, m19 _ (by omega), ← ht]
      by_cases q : nI m = nI v
      · rw [if_pos q, if_neg (fun z => z.1 q)]
        exact e113 _ _ rfl
      · rw [if_neg q]
        by_cases q1 : t0 = 1
        · rw [if_pos q1, if_pos ⟨q, q1⟩]
          exact e113 _ _ rfl
        · rw [if_neg q1, if_neg (fun z => q1 z.2)]
          exact e113 _ _ rfl
  unfold fL_isChanged
  rw [u_d4 (by omega), bnd_e, q_ofBand0 h hb, cl1_s, q_ofBand2 h hb, cl1_s]
  have e33 : fL_isChanged_33 (nI b) (nI pl) (nI v) (nI (pl / 4)) (nI (S b)) Z = some (1, Z') := by
    unfold fL_isChanged_33 fL_isChanged_34
    rw [if_pos rfl]
    exact e34 0 0 (Or.inl rfl)
  by_cases h4 : C b / 4 ≤ pl / 4
  · rw [if_pos (nI_le h4 (by omega))]
    exact e33
  · rw [if_neg (nI_ge (by omega) (by omega))]
    by_cases h0 : S b = 0
    · rw [if_pos (by rw [h0]; decide)]
      exact e33
    · rw [if_neg (show ¬ (nI (S b) ≤ (0 : Int32)) from nI_nle (by omega) (by omega))]
      unfold fL_isChanged_34
      rw [if_neg (by decide), u_s1 (by omega), q_knows h hb (show S b - 1 < S b by omega) (by omega), cl1_s]
      exact e34 1 _ (Or.inr ⟨rfl, by omega, by omega, rfl⟩)
theorem p_change (h : INV n Z F) {v b : Nat} (hv : v < 2147483648) (hb : b < 4) : GO n (fL_step_1010 (nI v) (nI b) Z F) := by
  obtain ⟨M, S, C, E, P, h, hf, hx⟩ := h
  have hC := (h.nC hb).1
  unfold GO fL_step_1010
  rw [q_ofBand1 h hb, cl1_s]
  by_cases hc : C b = 0
  · refine ⟨Z, F, ?_, INV.eq hf hx (k := 0) h (by omega) rfl rfl rfl rfl rfl rfl⟩
    rw [if_pos (by rw [hc]; rfl)]
    rfl
  · obtain ⟨Z', M', e, h', hz, mk⟩ := p_changed h hb (Nat.mod_lt v (show 0 < C b by omega)) (show v / 24 % 12 ≤ 11 by omega)
    refine ⟨Z', F, ?_, INV.eq hf hx (k := 0) h' (by omega) (by rw [hz]) (by rw [hz]) (mk 1 (by omega) (by omega)) (mk 2 (by omega) (by omega)) (mk 21 (by omega) (by omega)) (mk 24 (by omega) (by omega))⟩
    rw [if_neg (by rw [nIz (by omega)]; exact hc), cl1_s, gnzn (by omega) (by omega), u_en hv (by omega) (by omega), u_d24 hv, u_e12 (by omega), e, cl2_s, if_neg (by decide)]
    rfl
/-! a drill -/
/-- whose pan the walk over the seats has found -/
def dPan (M : MT) (P : Nat → Nat → Nat) (b k : Nat) (x : Int32) : Prop := (x = -1 ∧ ∀ j, j < k → M 12 (P b j) = -1) ∨ ∃ j q, j < k ∧ x = nI q ∧ M 12 (P b j) = nI q ∧ q < 6
theorem d_loop1 (h : uRR n Z M S C E P) {b j : Nat} (hb : b < 4) (hj : j < C b / 4) : ∀ (d k fuel : Nat) (x5 : Int32) (F : Nat → Int32), k + d = S b → d < fuel → dPan M P b k x5 → (∀ i, i < k → F i = M 19 (6 * (8 * b + i) + j)) → ∃ (x5' : Int32) (F' : Nat → Int32), dPan M P b (S b) x5' ∧ (∀ i, i < S b → F' i = M 19 (6 * (8 * b + i) + j)) ∧ lf7 fL_isDrilled_19 fuel (nI b) (nI j) (nI (S b)) x5 (nI k) Z F = fL_isDrilled_79 (nI b) (nI j) (nI (S b)) x5' Z F'
  | _, _, 0, _, _, _, hf, _, _ => absurd hf (Nat.not_lt_zero _)
  | 0, k, fuel + 1, x5, F, hk, _, hp, hF => by
    have hS := (h.nS hb).1
    have e : k = S b := by omega
    subst e
    refine ⟨x5, F, hp, hF, ?_⟩
    rw [lf7_s]
    unfold fL_isDrilled_19
    rw [if_pos (nI_le (Nat.le_refl _) (by omega))]
  | d + 1, k, fuel + 1, x5, F, hk, hf, hp, hF => by
    have hS := (h.nS hb).1
    have hnp := h.np.1
    have hsp := h.sp hb (show k < S b by omega)
    have step : ∀ r, (if M 12 (P b k) = (-1 : Int32) then lf7 fL_isDrilled_19 fuel (nI b) (nI j) (nI (S b)) x5 (nI (k + 1)) Z (upd F k (M 19 (6 * (8 * b + k) + j))) else lf7 fL_isDrilled_19 fuel (nI b) (nI j) (nI (S b)) (M 12 (P b k)) (nI (k + 1)) Z (upd F k (M 19 (6 * (8 * b + k) + j)))) = r → lf7 fL_isDrilled_19 (fuel + 1) (nI b) (nI j) (nI (S b)) x5 (nI k) Z F = r := fun r hr => by
      rw [lf7_s]
      unfold fL_isDrilled_19
      rw [if_neg (nI_ge (by omega) (by omega)), q_knows h hb (show k < S b by omega) hj, cl1_s, gdn (by omega) (by omega), nIc (by omega), bnd_e, q_seat h hb (show k < S b by omega), cl1_s, q_ofPlayer2 h hsp, cl1_s]
      unfold fL_isDrilled_71
      rw [← hr]
      split
      · rw [bnd_e, u_a1]
        rfl
      · rw [cl1_s, q_ofPlayer2 h hsp, cl1_s, bnd_e, u_a1]
        rfl
    have hF' : ∀ i, i < k + 1 → upd F k (M 19 (6 * (8 * b + k) + j)) i = M 19 (6 * (8 * b + i) + j) := fun i hi => by
      by_cases e : i = k
      · rw [e, pk_us]
      · rw [pk_un e]
        exact hF i (by omega)
    rcases h.m12 hsp with ⟨m, _⟩ | ⟨q, hq, m, _⟩
    · obtain ⟨x5', F', a1, a2, a3⟩ := d_loop1 h hb hj d (k + 1) fuel x5 (upd F k (M 19 (6 * (8 * b + k) + j))) (by omega) (by omega) (by
        rcases hp with ⟨p1, p2⟩ | ⟨j', q', p1, p2, p3, p4⟩
        · refine Or.inl ⟨p1, fun i hi => ?_⟩
          by_cases e : i = k
          · rw [e]
            exact m
          · exact p2 i (by omega)
        · exact Or.inr ⟨j', q', by omega, p2, p3, p4⟩) hF'
      exact ⟨x5', F', a1, a2, step _ (by rw [if_pos m]; exact a3)⟩
    · obtain ⟨x5', F', a1, a2, a3⟩ := d_loop1 h hb hj d (k + 1) fuel (M 12 (P b k)) (upd F k (M 19 (6 * (8 * b + k) + j))) (by omega) (by omega) (Or.inr ⟨k, q, by omega, m, m, by omega⟩) hF'
      exact ⟨x5', F', a1, a2, step _ (by rw [if_neg (by rw [m]; exact ne_m1 (by omega))]; exact a3)⟩
/-- the tones of a pan that one of the seats has: one less -/
theorem uwr_one {o : Nat → Option Nat} {T : Nat → Int32} {q f : Nat} (hf : f < 4) : ∀ s, (∀ i i', i < s → i' < s → o i = some q → o i' = some q → i = i') → uwr o T s (4 * q + f) = if ∃ i, i < s ∧ o i = some q then T (4 * q + f) - 1 else T (4 * q + f)
  | 0, _ => by
    rw [if_neg (fun ⟨i, hi, _⟩ => absurd hi (Nat.not_lt_zero i))]
    rfl
  | s + 1, hu => by
    have ih := uwr_one (o := o) (T := T) (q := q) hf s (fun i i' hi hi' => hu i i' (by omega) (by omega))
    show op2 (o s) (uwr o T s) (fun q => ulow q (uwr o T s)) (4 * q + f) = _
    rcases ho : o s with _ | q'
    · rw [op2_n, ih]
      have : (∃ i, i < s ∧ o i = some q) ↔ ∃ i, i < s + 1 ∧ o i = some q := ⟨fun ⟨i, a, b⟩ => ⟨i, by omega, b⟩, fun ⟨i, a, b⟩ => by
        by_cases e : i = s
        · rw [e, ho] at b
          cases b
        · exact ⟨i, by omega, b⟩⟩
      by_cases w : ∃ i, i < s ∧ o i = some q
      · rw [if_pos w, if_pos (this.mp w)]
      · rw [if_neg w, if_neg (fun z => w (this.mpr z))]
    · rw [op2_s]
      show (if 4 * q' ≤ 4 * q + f ∧ 4 * q + f < 4 * q' + 4 then uwr o T s (4 * q + f) - 1 else uwr o T s (4 * q + f)) = _
      by_cases e : q' = q
      · subst e
        have no : ¬ ∃ i, i < s ∧ o i = some q' := fun ⟨i, a, b⟩ => by
          have := hu i s (by omega) (by omega) b ho
          omega
        rw [if_pos (by omega), ih, if_neg no, if_pos ⟨s, by omega, ho⟩]
      · have : (∃ i, i < s ∧ o i = some q) ↔ ∃ i, i < s + 1 ∧ o i = some q := ⟨fun ⟨i, a, b⟩ => ⟨i, by omega, b⟩, fun ⟨i, a, b⟩ => by
          by_cases e2 : i = s
          · rw [e2, ho] at b
            exact absurd (Option.some.inj b) e
          · exact ⟨i, by omega, b⟩⟩
        rw [if_neg (by omega), ih]
        by_cases w : ∃ i, i < s ∧ o i = some q
        · rw [if_pos w, if_pos (this.mp w)]
        · rw [if_neg w, if_neg (fun z => w (this.mpr z))]
theorem d_learnt (h : uRR n Z M S C E P) {b k : Nat} {K : Nat → Int32} (hb : b < 4) (hk : k < S b) (hF : ∀ i, i < S b → F i = K i) (hl : (if (if k = 0 then (0 : Int32) else K (k - 1)) = 0 then (if k + 1 < S b then K (k + 1) else 0) else (if k = 0 then (0 : Int32) else K (k - 1))) = 2 ∨ (if (if k = 0 then (0 : Int32) else K (k - 1)) = 0 then (if k + 1 < S b then K (k + 1) else 0) else (if k = 0 then (0 : Int32) else K (k - 1))) = 1 ∧ ucnt S P (P b k) = 2) : fL_isLearnt (nI b) (nI k) (nI (S b)) Z F = some (1, Z) := by
  have hS := (h.nS hb).1
  have hsp := h.sp hb hk
  have e46 : ∀ t : Int32, (t = 2 ∨ t = 1 ∧ ucnt S P (P b k) = 2) → fL_isLearnt_46 (nI b) (nI k) t Z F = some (1, Z) := fun t ht => by
    unfold fL_isLearnt_46
    rcases ht with ht | ⟨ht, hc⟩
    · rw [if_pos ht]
      rfl
    · rw [ht, if_neg (by decide), if_pos rfl, q_seat h hb hk, cl1_s, q_ofPlayer1 h hsp, cl1_s, hc, if_pos (by decide)]
      rfl
  have e13 : ∀ lo : Int32, lo = (if k = 0 then (0 : Int32) else K (k - 1)) → fL_isLearnt_13 (nI b) (nI k) (nI (S b)) lo Z F = some (1, Z) := fun lo hlo => by
    rw [← hlo] at hl
    have e32 : ∀ hi : Int32, hi = (if k + 1 < S b then K (k + 1) else 0) → fL_isLearnt_32 (nI b) (nI k) lo hi Z F = some (1, Z) := fun hi hhi => by
      rw [← hhi] at hl
      unfold fL_isLearnt_32
      by_cases q : lo = 0
      · rw [if_pos q] at hl ⊢
        exact e46 _ hl
      · rw [if_neg q] at hl ⊢
        exact e46 _ hl
    unfold fL_isLearnt_13
    rw [u_a1]
    by_cases q : k + 1 = S b
    · rw [if_pos (by rw [q])]
      exact e32 _ (by rw [if_neg (by omega)])
    · rw [if_neg (by rw [nIe (by omega) (by omega)]; exact q), gdn (by omega) (by omega), nIc (by omega), hF _ (by omega)]
      exact e32 _ (by rw [if_pos (by omega)])
  unfold fL_isLearnt
  by_cases q : k = 0
  · rw [if_pos (by rw [q]; rfl)]
    exact e13 _ (by rw [if_pos q])
  · rw [if_neg (by rw [nIz (by omega)]; exact q), u_s1 (by omega), gdn (by omega) (by omega), nIc (by omega), hF _ (by omega)]
    exact e13 _ (by rw [if_neg q])
theorem d_loop2 (h : uRR n Z M S C E P) {b j : Nat} {K L : Nat → Int32} {told : Int32} (hb : b < 4) (hj : j < C b / 4) (hF : ∀ i, i < S b → F i = K i) (hK : ∀ i, i < S b → K i = 0 ∨ K i = 1 ∨ K i = 2) (hM : ∀ i, i < S b → M 19 (6 * (8 * b + i) + j) = L i) (hL : ∀ i, i < S b → L i = ulr (K i) (if i = 0 then 0 else K (i - 1)) (if i + 1 < S b then K (i + 1) else 0) (decide (ucnt S P (P b i) = 2))) (ht : told = nI (uct L (S b))) : ∀ (d k fuel : Nat), k + d = S b → d < fuel → lf9 fL_isDrilled_193 fuel (nI b) (nI j) (nI (S b)) told (nI (uct L k)) 1 (nI k) Z F = some (1, Z)
  | _, _, 0, _, hf => absurd hf (Nat.not_lt_zero _)
  | 0, k, fuel + 1, hk, _ => by
    have hS := (h.nS hb).1
    have e : k = S b := by omega
    subst e
    rw [lf9_s]
    unfold fL_isDrilled_193 fL_isDrilled_359
    rw [if_pos (nI_le (Nat.le_refl _) (by omega)), if_neg (by decide), if_pos ht]
    rfl
  | d + 1, k, fuel + 1, hk, hf => by
    have hS := (h.nS hb).1
    have hkS : k < S b := by omega
    have ih := d_loop2 h hb hj hF hK hM hL ht d (k + 1) fuel (by omega) (by omega)
    have hc8 := uct_le L k
    have e351 : fL_isDrilled_351 (lf9 fL_isDrilled_193 fuel) (nI b) (nI j) (nI (S b)) told (nI (uct L (k + 1))) (nI k) 1 Z F = some (1, Z) := by
      unfold fL_isDrilled_351
      rw [bnd_e, u_a1]
      exact ih
    have hLk := hL k hkS
    obtain ⟨lo, hlo⟩ : ∃ lo : Int32, lo = if k = 0 then 0 else K (k - 1) := ⟨_, rfl⟩
    obtain ⟨hi, hhi⟩ : ∃ hi : Int32, hi = if k + 1 < S b then K (k + 1) else 0 := ⟨_, rfl⟩
    have ec : uct L (k + 1) = uct L k + (if L k = 1 then 1 else 0) := rfl
    have e269 : ∀ x12 : Int32, (x12 = if lo = 1 ∧ hi = 1 then 1 else 0) → ∀ t : Nat, (t = if L k = 1 then 1 else 0) → fL_isDrilled_269 (lf9 fL_isDrilled_193 fuel) (nI b) (nI j) (nI (S b)) told (nI k) (L k) x12 (nI t) (nI (uct L k)) Z F = some (1, Z) := fun x12 h12 t ht9 => by
      unfold fL_isDrilled_269
      rw [nI_add, ht9, ← ec, bnd_e, gdn (by omega) (by omega), nIc (by omega), hF k hkS]
      rw [← hlo, ← hhi] at hLk
      unfold ulr at hLk
      rcases hK k hkS with q | q | q
      · rw [q, if_neg (by decide), if_neg (by decide)] at hLk
        rw [q, if_neg (by decide), gdn (by omega) (by omega), if_neg (by decide)]
        by_cases w : L k < 2
        · rw [if_pos w]
          exact e351
        · rw [if_neg w]
          have dl : fL_isLearnt (nI b) (nI k) (nI (S b)) Z F = some (1, Z) := by
            refine d_learnt h hb hkS hF ?_
            rw [← hlo, ← hhi]
            by_cases w1 : (if lo = 0 then hi else lo) = 1 ∧ decide (ucnt S P (P b k) = 2) = true
            · exact Or.inr ⟨w1.1, of_decide_eq_true w1.2⟩
            · rw [if_neg w1] at hLk
              refine Or.inl ?_
              rw [← hLk]
              have hb3 : L k = 0 ∨ L k = 1 ∨ L k = 2 := by
                rw [hLk]
                have l3 : lo = 0 ∨ lo = 1 ∨ lo = 2 := by
                  rw [hlo]
                  split
                  · exact Or.inl rfl
                  · exact hK _ (by omega)
                have h3 : hi = 0 ∨ hi = 1 ∨ hi = 2 := by
                  rw [hhi]
                  split
                  · exact hK _ (by omega)
                  · exact Or.inl rfl
                split
                · exact h3
                · exact l3
              rcases hb3 with z | z | z
              · rw [z] at w
                exact absurd (by decide) w
              · rw [z] at w
                exact absurd (by decide) w
              · exact z
          rw [dl, cl2_s, if_neg (by decide)]
          exact e351
      · rw [q, if_neg (by decide), if_pos rfl] at hLk
        rw [q, if_pos rfl, if_pos hLk]
        exact e351
      · rw [q, if_pos rfl] at hLk
        rw [q, if_neg (by decide), gdn (by omega) (by omega), if_pos rfl]
        unfold fL_isDrilled_316
        by_cases w : lo = 1 ∧ hi = 1
        · rw [if_pos w] at hLk h12
          rw [h12, if_neg (by decide), if_pos hLk]
          exact e351
        · rw [if_neg w] at hLk h12
          rw [h12, if_pos rfl, if_pos hLk]
          exact e351
    have e254 : ∀ x12 : Int32, (x12 = if lo = 1 ∧ hi = 1 then 1 else 0) → fL_isDrilled_254 (lf9 fL_isDrilled_193 fuel) (nI b) (nI j) (nI (S b)) told (nI (uct L k)) (nI k) (L k) x12 Z F = some (1, Z) := fun x12 h12 => by
      unfold fL_isDrilled_254
      by_cases w : L k = 1
      · rw [if_pos w]
        exact e269 x12 h12 1 (by rw [if_pos w])
      · rw [if_neg w]
        exact e269 x12 h12 0 (by rw [if_neg w])
    have e253 : ¬ (lo = 1 ∧ hi = 1) → fL_isDrilled_253 (lf9 fL_isDrilled_193 fuel) (nI b) (nI j) (nI (S b)) told (nI (uct L k)) (nI k) (L k) Z F = some (1, Z) := fun w => by
      unfold fL_isDrilled_253
      exact e254 0 (by rw [if_neg w])
    rw [lf9_s]
    rw [show fL_isDrilled_193 (lf9 fL_isDrilled_193 fuel) (nI b) (nI j) (nI (S b)) told (nI (uct L k)) 1 (nI k) Z F = (if nI (S b) ≤ nI k then fL_isDrilled_359 told (nI (uct L k)) 1 Z F else (if (1 : Int32) = 0 then fL_isDrilled_359 told (nI (uct L k)) 1 Z F else cl1 (fX6_knows_n (nI b) (nI k) (nI j) Z) (fun v32 => (if nI k ≤ 0 then fL_isDrilled_253 (lf9 fL_isDrilled_193 fuel) (nI b) (nI j) (nI (S b)) told (nI (uct L k)) (nI k) v32 Z F else (if nI (S b) ≤ (nI k + (1 : Int32)) then fL_isDrilled_253 (lf9 fL_isDrilled_193 fuel) (nI b) (nI j) (nI (S b)) told (nI (uct L k)) (nI k) v32 Z F else gd (gin (nI k - (1 : Int32)) 8) ((if (F (Int32.toNatClampNeg (nI k - (1 : Int32)))) = (1 : Int32) then gd (gin (nI k + (1 : Int32)) 8) ((if (F (Int32.toNatClampNeg (nI k + (1 : Int32)))) = (1 : Int32) then fL_isDrilled_254 (lf9 fL_isDrilled_193 fuel) (nI b) (nI j) (nI (S b)) told (nI (uct L k)) (nI k) v32 (1 : Int32) Z F else fL_isDrilled_253 (lf9 fL_isDrilled_193 fuel) (nI b) (nI j) (nI (S b)) told (nI (uct L k)) (nI k) v32 Z F)) else fL_isDrilled_253 (lf9 fL_isDrilled_193 fuel) (nI b) (nI j) (nI (S b)) told (nI (uct L k)) (nI k) v32 Z F))))))) from rfl]
    rw [if_neg (nI_ge hkS (by omega)), if_neg (by decide), q_knows h hb hkS hj, cl1_s, hM k hkS, u_a1]
    by_cases k0 : k = 0
    · rw [if_pos (by rw [k0]; decide)]
      exact e253 (fun z => by
        rw [hlo, if_pos k0] at z
        exact absurd z.1 (by decide))
    · rw [if_neg (show ¬ (nI k ≤ (0 : Int32)) from nI_nle (by omega) (by omega))]
      by_cases k1 : S b ≤ k + 1
      · rw [if_pos (nI_le k1 (by omega))]
        exact e253 (fun z => by
          rw [hhi, if_neg (by omega)] at z
          exact absurd z.2 (by decide))
      · have el : lo = K (k - 1) := by rw [hlo, if_neg k0]
        have eh : hi = K (k + 1) := by rw [hhi, if_pos (by omega)]
        rw [if_neg (nI_ge (by omega) (by omega)), u_s1 (by omega), gdn (by omega) (by omega), nIc (by omega), hF _ (by omega), ← el, gdn (by omega) (by omega), nIc (by omega), hF _ (by omega), ← eh]
        by_cases w1 : lo = 1
        · rw [if_pos w1]
          by_cases w2 : hi = 1
          · rw [if_pos w2]
            exact e254 1 (by rw [if_pos ⟨w1, w2⟩])
          · rw [if_neg w2]
            exact e253 (fun z => w2 z.2)
        · rw [if_neg w1]
          exact e253 (fun z => w1 z.1)
theorem p_drilled (hn : n + 6 < 512) (h : uRR n Z M S C E P) {b j : Nat} (hb : b < 4) (hj : j < C b / 4) : ∃ (Z' : CZ) (M' : MT), fL_isDrilled (nI b) (nI j) Z = some (1, Z') ∧ uRR (n + 1) Z' M' S C E P ∧ Z'.2 = Z.2 ∧ (∀ k, k ≠ 4 → k ≠ 19 → k ≠ 21 → M' k = M k) ∧ ∀ b', M' 21 b' = M 21 b' ∨ M' 21 b' = M 1 0 := by
  have hS := (h.nS hb).1
  have hC := (h.nC hb).1
  have hnp := h.np.1
  obtain ⟨x5, F', hp, hF, e1⟩ := d_loop1 h hb hj (S b) 0 100 (-1) (fun _ => 0) (by omega) (by omega) (Or.inl ⟨rfl, fun i hi => absurd hi (Nat.not_lt_zero i)⟩) (fun i hi => absurd hi (Nat.not_lt_zero i))
  have start : ∀ r, fL_isDrilled_79 (nI b) (nI j) (nI (S b)) x5 Z F' = r → fL_isDrilled (nI b) (nI j) Z = r := fun r hr => by
    unfold fL_isDrilled
    rw [q_ofBand0 h hb, cl1_s, bnd_e, ← hr, ← e1]
    rfl
  have e79 : ∀ r, (∀ t0 : Int32, (∀ q, q < Z.2.2 0 → x5 = nI q → t0 = M 4 (4 * q + 2)) → fL_isDrilled_97 (nI b) (nI j) (nI (S b)) x5 t0 Z F' = r) → fL_isDrilled (nI b) (nI j) Z = r := fun r hr => start _ (by
    unfold fL_isDrilled_79
    rcases hp with ⟨p1, _⟩ | ⟨j', q, p1, p2, p3, p4⟩
    · rw [if_pos p1]
      exact hr 0 (fun q hq e => by
        rw [p1] at e
        exact absurd e.symm (ne_m1 (by omega)))
    · have hsp := h.sp hb p1
      have hq : q < Z.2.2 0 := by
        rcases h.m12 hsp with ⟨m, _⟩ | ⟨q', hq', m, _⟩
        · rw [m] at p3
          exact absurd p3.symm (ne_m1 (by omega))
        · rw [m, nIe (by omega) (by omega)] at p3
          omega
      rw [p2, if_neg (ne_m1 (by omega)), show fX6_field_n (nI q) (2 : Int32) (0 : Int32) Z = some (M 4 (4 * q + 2)) from q_field0 h (f := 2) hq (by omega), cl1_s, ← p2]
      exact hr _ (fun q' hq' e => by
        rw [p2, nIe (by omega) (by omega)] at e
        rw [e]))
  by_cases hx : S b = 0 ∨ M 21 b = M 1 0
  · refine ⟨Z, M, e79 _ (fun t0 _ => ?_), h.up, rfl, fun _ _ _ _ => rfl, fun _ => Or.inl rfl⟩
    unfold fL_isDrilled_97 fL_acts3
    rw [k_drill_no h hb hj hx, wx_r, cl2_s, if_pos rfl]
    by_cases h0 : S b = 0
    · rw [if_pos (by rw [h0]; rfl)]
      rfl
    · rw [if_neg (by rw [nIz (by omega)]; exact h0), q_ofBand4 h hb, cl1_s, if_pos (hx.resolve_left h0), if_pos rfl]
      rfl
  · have h0 : ¬ S b = 0 := fun q => hx (Or.inl q)
    have hd : ¬ M 21 b = M 1 0 := fun q => hx (Or.inr q)
    obtain ⟨Z', M', h', hz, mk, m21, m4, m19, e⟩ := k_drill (by omega) h hb hj h0 hd
    have m1 : M' 1 = M 1 := mk 1 (by omega) (by omega) (by omega)
    have m21b : M' 21 b = M' 1 0 := by rw [m21, pk_us, m1]
    refine ⟨Z', M', e79 _ (fun t0 ht0 => ?_), h', hz, mk, fun b' => ?_⟩
    · have hct := uct_le (uLK (M 19) S P b j) (S b)
      have e183 : fL_isDrilled_183 (nI b) (nI j) (nI (S b)) (nI (uct (uLK (M 19) S P b j) (S b))) 0 Z' F' = some (1, Z') := by
        unfold fL_isDrilled_183 fL_isDrilled_188
        have := d_loop2 (Z := Z') (M := M') (S := S) (C := C) (P := P) (F := F') (K := fun i => M 19 (6 * (8 * b + i) + j)) (L := uLK (M 19) S P b j) h' hb hj hF (fun i hi => h.kn hb hi (by omega)) m19 (fun i hi => rfl) rfl (S b) 0 100 (by omega) (by omega)
        exact this
      unfold fL_isDrilled_97 fL_acts3
      rw [e, wx_l, cl2_s, if_neg (ne_m200 (by omega)), q_ofBand4 h' hb, cl1_s, if_pos m21b, if_pos rfl, k_drill_no h' hb hj (Or.inr m21b), wx_r, cl2_s, if_pos rfl]
      rcases hp with ⟨p1, _⟩ | ⟨j', q, p1, p2, p3, p4⟩
      · rw [if_pos p1]
        exact e183
      · have hsp := h.sp hb p1
        obtain ⟨hq, hq9⟩ : q < Z.2.2 0 ∧ Z.2.1 9 (P b j') 2 = some q := by
          rcases h.m12 hsp with ⟨m, _⟩ | ⟨q', hq', m, z9⟩
          · rw [m] at p3
            exact absurd p3.symm (ne_m1 (by omega))
          · rw [m, nIe (by omega) (by omega)] at p3
            rw [← p3]
            exact ⟨hq', z9⟩
        have hq' : q < Z'.2.2 0 := by rw [hz]; exact hq
        have one := uwr_one (o := fun k => Z.2.1 9 (P b k) 2) (T := M 4) (q := q) (f := 2) (by omega) (S b) (fun i i' hi hi' w w' => h.2.2.2.2.2.2.1.2.2.1 b i i' hb hi hi' (h.2.2.2.2.2.1.2.1 _ _ q (h.sp hb hi) (h.sp hb hi') w w'))
        rw [if_pos ⟨j', p1, hq9⟩] at one
        rw [p2, if_neg (ne_m1 (by omega)), show fX6_field_n (nI q) (2 : Int32) (0 : Int32) Z' = some (M' 4 (4 * q + 2)) from q_field0 h' (f := 2) hq' (by omega), cl1_s, m4, one, ht0 q hq p2, if_pos rfl]
        exact e183
    · rw [m21]
      by_cases eb : b' = b
      · rw [eb, pk_us]
        exact Or.inr rfl
      · rw [pk_un eb]
        exact Or.inl rfl
theorem p_drill (hn : n + 6 < 512) (h : INV n Z F) {v b : Nat} (hv : v < 2147483648) (hb : b < 4) : GO n (fL_step_1158 (nI v) (nI b) Z F) := by
  obtain ⟨M, S, C, E, P, h, hf, hx⟩ := h
  have hC := (h.nC hb).1
  unfold GO fL_step_1158
  rw [q_ofBand2 h hb, cl1_s]
  by_cases hc : C b / 4 = 0
  · refine ⟨Z, F, ?_, INV.eq hf hx (k := 0) h (by omega) rfl rfl rfl rfl rfl rfl⟩
    rw [if_pos (by rw [hc]; rfl)]
    rfl
  · obtain ⟨Z', M', e, h', hz, mk, m21⟩ := p_drilled hn h hb (Nat.mod_lt v (show 0 < C b / 4 by omega))
    have m1 := mk 1 (by omega) (by omega) (by omega)
    have m2 := mk 2 (by omega) (by omega) (by omega)
    obtain ⟨⟨t, t1, t2, t3⟩, ho⟩ := hx
    refine ⟨Z', F, ?_, ⟨M', S, C, E, P, h'.ups 5, ⟨by rw [hz]; exact hf.1, by rw [hz]; exact hf.2.1, by rw [m1]; exact hf.2.2.1, by rw [m2]; exact hf.2.2.2⟩, ⟨⟨t, t1, by rw [m1]; exact t2, fun b' hb' => ?_⟩, fun b' hb' => by rw [mk 24 (by omega) (by omega) (by omega)]; exact ho b' hb'⟩⟩⟩
    · rw [if_neg (by rw [nIz (by omega)]; exact hc), cl1_s, gnzn (by omega) (by omega), u_en hv (by omega) (by omega), e, cl2_s, if_neg (by decide)]
      rfl
    · rcases m21 b' with q | q
      · rw [q]
        exact t3 b' hb'
      · exact Or.inr ⟨t, Nat.le_refl t, by rw [q, t2]⟩
end PL2
