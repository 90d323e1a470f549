/-! PURE PART. Where a player sits; ofPlayer. -/
section URS
variable {n : Nat} {Z : CZ} {M : MT} {S C : Nat → Nat} {E P : Nat → Nat → Nat}
theorem uin_iff {b i : Nat} : (List.range (S b)).any (fun k => P b k == i) = true ↔ ∃ k, k < S b ∧ P b k = i := by
  rw [List.any_eq_true]
  constructor
  · rintro ⟨k, hk, e⟩
    exact ⟨k, List.mem_range.mp hk, beq_iff_eq.mp e⟩
  · rintro ⟨k, hk, e⟩
    exact ⟨k, List.mem_range.mpr hk, beq_iff_eq.mpr e⟩
theorem uin_1 {b i k : Nat} (hk : k < S b) (e : P b k = i) : uin S P b i = 1 := if_pos (uin_iff.mpr ⟨k, hk, e⟩)
theorem uin_0 {b i : Nat} (h : ∀ k, k < S b → P b k ≠ i) : uin S P b i = 0 := if_neg (fun q => by
  obtain ⟨k, hk, e⟩ := uin_iff.mp q
  exact h k hk e)
theorem uin_or (S : Nat → Nat) (P : Nat → Nat → Nat) (b i : Nat) : (uin S P b i = 1 ∧ ∃ k, k < S b ∧ P b k = i) ∨ (uin S P b i = 0 ∧ ∀ k, k < S b → P b k ≠ i) := by
  by_cases h : ∃ k, k < S b ∧ P b k = i
  · obtain ⟨k, hk, e⟩ := h
    exact Or.inl ⟨uin_1 hk e, k, hk, e⟩
  · have h2 : ∀ k, k < S b → P b k ≠ i := fun k hk e => h ⟨k, hk, e⟩
    exact Or.inr ⟨uin_0 h2, h2⟩
theorem uin_le (S : Nat → Nat) (P : Nat → Nat → Nat) (b i : Nat) : uin S P b i ≤ 1 := by
  unfold uin
  split <;> omega
theorem m_seatOf_l (h : uRR n Z M S C E P) {i b : Nat} (hi : i < Z.2.2 1) (hb : b < 4) : ∀ (d x fuel : Nat) (f : Int32), x + d = S b → d < fuel → ∃ w : Int32, lf4 (fX7_seatOf_5 M) fuel (nI i) (nI b) f (nI x) = some w ∧ ((∀ k, x ≤ k → k < S b → P b k ≠ i) → w = f) ∧ ∀ k0, x ≤ k0 → k0 < S b → P b k0 = i → w = nI k0
  | _, _, 0, _, _, hf => absurd hf (by omega)
  | 0, x, fuel + 1, f, hx, _ => by
    have hS := h.nS hb
    refine ⟨f, ?_, fun _ => rfl, fun k0 h1 h2 _ => by omega⟩
    rw [lf4_s]
    unfold fX7_seatOf_5
    rw [gdn hb (by omega), nIc (by omega), hS.2, if_pos (nI_le (by omega) (by omega))]
    rfl
  | d + 1, x, fuel + 1, f, hx, hf => by
    have hS := h.nS hb
    have hnl := h.nl.1
    have h7 := h.2.2.2.2.2.2.1
    obtain ⟨p1, p2, p3, p4⟩ := h7.2.1 b x hb (by omega)
    have est : ∀ f', (if P b x = i then nI x else f) = f' → lf4 (fX7_seatOf_5 M) (fuel + 1) (nI i) (nI b) f (nI x) = lf4 (fX7_seatOf_5 M) fuel (nI i) (nI b) f' (nI (x + 1)) := fun f' e => by
      rw [lf4_s]
      unfold fX7_seatOf_5
      rw [gdn hb (by omega), nIc (by omega), hS.2, if_neg (nI_ge (by omega) (by omega)), u_l8, nI_add, gdn (by omega) (by omega), nIc (by omega), p4, ← e]
      unfold fX7_seatOf_38
      by_cases hp : P b x = i
      · rw [if_pos (show nI (P b x) = nI i by rw [hp]), if_pos hp, bnd_e, u_a1]
      · rw [if_neg (show ¬ (nI (P b x) = nI i) by rw [nIe (by omega) (by omega)]; exact hp), if_neg hp, bnd_e, u_a1]
    obtain ⟨w, w1, w2, w3⟩ := m_seatOf_l h hi hb d (x + 1) fuel (if P b x = i then nI x else f) (by omega) (by omega)
    refine ⟨w, by rw [est _ rfl]; exact w1, fun hn => ?_, fun k0 k1 k2 k3 => ?_⟩
    · rw [w2 (fun k g1 g2 => hn k (by omega) g2), if_neg (hn x (by omega) (by omega))]
    · by_cases hp : P b x = i
      · have : k0 = x := h7.2.2.1 b k0 x hb k2 (by omega) (by rw [k3, hp])
        subst this
        rw [w2 (fun k g1 g2 e => by
          have := h7.2.2.1 b k k0 hb g2 k2 (by rw [e, k3])
          omega), if_pos hp]
      · exact w3 k0 (by
          rcases Nat.eq_or_lt_of_le k1 with e | e
          · subst e
            exact absurd k3 hp
          · omega) k2 k3
theorem m_seatOf_t (h : uRR n Z M S C E P) {i b k : Nat} (hi : i < Z.2.2 1) (hb : b < 4) (hk : k < S b) (e : P b k = i) : fX7_seatOf (nI i) (nI b) M = some (nI k) := by
  have hS := h.nS hb
  obtain ⟨w, w1, w2, w3⟩ := m_seatOf_l h hi hb (S b) 0 100 (-1) (by omega) (by omega)
  rw [w3 k (by omega) hk e] at w1
  exact w1
theorem m_seatOf_f (h : uRR n Z M S C E P) {i b : Nat} (hi : i < Z.2.2 1) (hb : b < 4) (e : ∀ k, k < S b → P b k ≠ i) : fX7_seatOf (nI i) (nI b) M = some (-1) := by
  have hS := h.nS hb
  obtain ⟨w, w1, w2, w3⟩ := m_seatOf_l h hi hb (S b) 0 100 (-1) (by omega) (by omega)
  rw [w2 (fun k _ hk => e k hk)] at w1
  exact w1
theorem c_seatOf_l (h : uRR n Z M S C E P) {i b : Nat} (hi : i < Z.2.2 1) (hb : b < 4) : ∀ (d x fuel : Nat), x + d = S b → d < fuel → ∃ w : Int32, lf3 (fX0_seatOf_2 Z) fuel b i (nI x) = some w ∧ ((∀ k, x ≤ k → k < S b → P b k ≠ i) → w = -1) ∧ ∀ k0, x ≤ k0 → k0 < S b → P b k0 = i → w = nI k0
  | _, _, 0, _, hf => absurd hf (by omega)
  | 0, x, fuel + 1, hx, _ => by
    have hS := h.nS hb
    refine ⟨-1, ?_, fun _ => rfl, fun k0 h1 h2 _ => by omega⟩
    rw [lf3_s]
    unfold fX0_seatOf_2
    rw [cLv10 hb, gdt, cLv3 (by omega), gdt, (h.ls4 hb).size (by omega), cl1_s, if_pos (nI_le (by omega) (by omega))]
    rfl
  | d + 1, x, fuel + 1, hx, hf => by
    have hS := h.nS hb
    have h7 := h.2.2.2.2.2.2.1
    obtain ⟨p1, p2, p3, p4⟩ := h7.2.1 b x hb (by omega)
    have est : lf3 (fX0_seatOf_2 Z) (fuel + 1) b i (nI x) = if P b x = i then some (nI x) else lf3 (fX0_seatOf_2 Z) fuel b i (nI (x + 1)) := by
      rw [lf3_s]
      unfold fX0_seatOf_2
      rw [cLv10 hb, gdt, cLv3 (by omega), gdt, (h.ls4 hb).size (by omega), cl1_s, if_neg (nI_ge (by omega) (by omega)), (h.ls4 hb).get (by omega) (show x < S b by omega), cl1_s, cLv13 p1, gdt, p3, cl1_s, cLv9 p2, gdt, cLv9 hi, gdt, bnd_e, u_a1]
      rfl
    obtain ⟨w, w1, w2, w3⟩ := c_seatOf_l h hi hb d (x + 1) fuel (by omega) (by omega)
    by_cases hp : P b x = i
    · refine ⟨nI x, by rw [est, if_pos hp], fun hn => absurd hp (hn x (by omega) (by omega)), fun k0 k1 k2 k3 => ?_⟩
      have : k0 = x := h7.2.2.1 b k0 x hb k2 (by omega) (by rw [k3, hp])
      rw [this]
    · refine ⟨w, by rw [est, if_neg hp]; exact w1, fun hn => w2 (fun k g1 g2 => hn k (by omega) g2), fun k0 k1 k2 k3 => w3 k0 (by
          rcases Nat.eq_or_lt_of_le k1 with e | e
          · subst e
            exact absurd k3 hp
          · omega) k2 k3⟩
theorem c_seatOf_t (h : uRR n Z M S C E P) {i b k : Nat} (hi : i < Z.2.2 1) (hb : b < 4) (hk : k < S b) (e : P b k = i) : fX0_seatOf b i Z = some (nI k) := by
  have hS := h.nS hb
  obtain ⟨w, w1, w2, w3⟩ := c_seatOf_l h hi hb (S b) 0 100 (by omega) (by omega)
  rw [w3 k (by omega) hk e] at w1
  exact w1
theorem c_seatOf_f (h : uRR n Z M S C E P) {i b : Nat} (hi : i < Z.2.2 1) (hb : b < 4) (e : ∀ k, k < S b → P b k ≠ i) : fX0_seatOf b i Z = some (-1) := by
  have hS := h.nS hb
  obtain ⟨w, w1, w2, w3⟩ := c_seatOf_l h hi hb (S b) 0 100 (by omega) (by omega)
  rw [w2 (fun k _ hk => e k hk)] at w1
  exact w1
theorem m_bo_s (h : uRR n Z M S C E P) {i b c : Nat} (hi : i < Z.2.2 1) (hb : b < 4) (fuel : Nat) : lf3 (fX7_bandsOf_4 M) (fuel + 1) (nI i) (nI c) (nI b) = lf3 (fX7_bandsOf_4 M) fuel (nI i) (nI (c + uin S P b i)) (nI (b + 1)) := by
  have hS := h.nS hb
  rw [lf3_s]
  unfold fX7_bandsOf_4
  rw [if_neg (show ¬ ((4 : Int32) ≤ nI b) from nI_ge (b := 4) (by omega) (by omega))]
  rcases uin_or S P b i with ⟨u1, k, hk, e⟩ | ⟨u1, e⟩
  · rw [m_seatOf_t h hi hb hk e, cl1_s, if_neg (by rw [nIm1 (by omega)]; exact id), u1]
    unfold fX7_bandsOf_25
    rw [bnd_e, bnd_e, u_a1, u_a1]
  · rw [m_seatOf_f h hi hb e, cl1_s, if_pos (by decide), u1]
    unfold fX7_bandsOf_25
    rw [bnd_e, bnd_e, u_a1, Int32.add_zero]
    rfl
theorem m_bandsOf (h : uRR n Z M S C E P) {i : Nat} (hi : i < Z.2.2 1) : fX7_bandsOf (nI i) M = some (nI (ucnt S P i)) := by
  unfold fX7_bandsOf
  show lf3 (fX7_bandsOf_4 M) (95 + 1 + 1 + 1 + 1 + 1) (nI i) (nI 0) (nI 0) = _
  rw [m_bo_s h hi (by omega), m_bo_s h hi (by omega), m_bo_s h hi (by omega), m_bo_s h hi (by omega), lf3_s, Nat.zero_add]
  unfold fX7_bandsOf_4
  rw [if_pos (by decide)]
  rfl
theorem ok_ofPlayer : st_ofPlayer (uR n) (uR (n + 1)) := by
  rintro Z M ⟨S, C, E, P, h⟩ a1 a2
  have hnl := h.nl.1
  rcases uIx_or a1 (n := Z.2.2 1) (by omega) with ⟨i, hi, rfl⟩ | hf
  · obtain ⟨f1, f2, f3, f4, f5⟩ := h.2.2.2.2.1.2.2 i hi
    obtain ⟨o1, o2⟩ := h.2.2.2.2.2.1.1 i hi
    have f8 := (h.2.2.2.2.2.2.2.1 i hi).1
    rcases rg_or a2 0 2 with ⟨h1, h2⟩ | hf
    · obtain ⟨k, _, hk, rfl⟩ := rg_nI (b := 0) (c := 2) (by omega) (by omega) h1 h2
      have em : ∀ v, fX7_ofPlayer_27 (nI i) (nI k) 0 M = some (v, va_up M 0 (fun _ => 0)) → fX7_ofPlayer (nI i) (nI k) M = some (v, va_up M 0 (fun _ => 0)) := fun v hv => by
        unfold fX7_ofPlayer
        rw [h.isPlayer hi, cl1_s, if_neg (by decide), m_isIn_t h1 h2, cl1_s, if_neg (by decide)]
        exact hv
      have ec : ∀ v, fX6_ofPlayer (nI i) (nI k) Z = some (.inl v) → fX7_ofPlayer (nI i) (nI k) M = some (v, va_up M 0 (fun _ => 0)) → stepR (fX6_ofPlayer (nI i) (nI k) Z) Z (fX7_ofPlayer (nI i) (nI k) M) [1, 2] (uR (n + 1)) := fun v q1 q2 => ⟨v, _, q2, ⟨S, C, E, P, h.up⟩, Or.inl ⟨q1, rfl⟩⟩
      have hk3 : k = 0 ∨ k = 1 ∨ k = 2 := by omega
      rcases hk3 with rfl | rfl | rfl
      · refine ec (M 11 i) ?_ (em _ ?_)
        · unfold fX6_ofPlayer
          rw [h.playerAt hi, cx1_l, c_rr_t h1 h2, cx1_l, if_pos (by decide), cLv9 hi, gdt, f2]
        · unfold fX7_ofPlayer_27
          rw [m_holds_0, cl2_s, if_neg (by decide), if_pos (by decide), gdn (by omega) (by omega), nIc (by omega)]
          rfl
      · refine ec (nI (ucnt S P i)) ?_ (em _ ?_)
        · unfold fX6_ofPlayer
          rw [h.playerAt hi, cx1_l, c_rr_t h1 h2, cx1_l, if_neg (by decide), if_pos (by decide), cLv9 hi, gdt, f8]
        · unfold fX7_ofPlayer_27
          rw [m_holds_0, cl2_s, if_neg (by decide), if_neg (by decide), if_pos (by decide), m_bandsOf (h.thr _) hi, cl1_s]
          rfl
      · refine ec (M 12 i) ?_ (em _ ?_)
        · unfold fX6_ofPlayer
          rw [h.playerAt hi, cx1_l, c_rr_t h1 h2, cx1_l, if_neg (by decide), if_neg (by decide), cLv9 hi, gdt, o1]
          rcases hq : Z.2.1 9 i 2 with _ | q
          · rfl
          · have hqp := o2 q hq
            rw [op2_s, cLv5 hqp, gdt, h.2.1.2.2.1 q hqp]
            rfl
        · unfold fX7_ofPlayer_27
          rw [m_holds_0, cl2_s, if_neg (by decide), if_neg (by decide), if_neg (by decide), gdn (by omega) (by omega), nIc (by omega)]
          rfl
    · refine sR_err (cd := 2) (j := 1) ⟨S, C, E, P, h⟩ ?_ ?_ rfl rfl
      · unfold fX7_ofPlayer
        rw [h.isPlayer hi, cl1_s, if_neg (by decide), m_isIn_f hf]
        rfl
      · unfold fX6_ofPlayer
        rw [h.playerAt hi, cx1_l, c_rr_f hf, cx1_r]
  · refine sR_err (cd := 1) (j := 0) ⟨S, C, E, P, h⟩ ?_ ?_ rfl rfl
    · unfold fX7_ofPlayer
      rw [h.isPlayerF hf, cl1_s, if_pos (by decide)]
      rfl
    · unfold fX6_ofPlayer
      rw [h.playerAtF hf, cx1_r]
end URS
