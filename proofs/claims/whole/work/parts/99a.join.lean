/-! PURE PART. join. -/
section URJ
variable {n : Nat} {Z : CZ} {M : MT} {S C : Nat → Nat} {E P : Nat → Nat → Nat}
theorem uin_o {S' : Nat → Nat} {P' : Nat → Nat → Nat} {b i : Nat} (h : (∃ k, k < S' b ∧ P' b k = i) ↔ ∃ k, k < S b ∧ P b k = i) : uin S' P' b i = uin S P b i := by
  unfold uin
  by_cases q : ∃ k, k < S b ∧ P b k = i
  · rw [if_pos (uin_iff.mpr (h.mpr q)), if_pos (uin_iff.mpr q)]
  · rw [if_neg (fun z => q (h.mp (uin_iff.mp z))), if_neg (fun z => q (uin_iff.mp z))]
theorem ucnt_o {S' : Nat → Nat} {P' : Nat → Nat → Nat} {i : Nat} (h : ∀ b, b < 4 → uin S' P' b i = uin S P b i) : ucnt S' P' i = ucnt S P i := by
  unfold ucnt
  rw [h 0 (by omega), h 1 (by omega), h 2 (by omega), h 3 (by omega)]
theorem ucnt_1 {S' : Nat → Nat} {P' : Nat → Nat → Nat} {b i : Nat} (hb : b < 4) (h : ∀ b', b' < 4 → b' ≠ b → uin S' P' b' i = uin S P b' i) (h1 : uin S' P' b i = uin S P b i + 1) : ucnt S' P' i = ucnt S P i + 1 := by
  unfold ucnt
  have : b = 0 ∨ b = 1 ∨ b = 2 ∨ b = 3 := by omega
  rcases this with rfl | rfl | rfl | rfl
  · rw [h 1 (by omega) (by omega), h 2 (by omega) (by omega), h 3 (by omega) (by omega), h1]
    omega
  · rw [h 0 (by omega) (by omega), h 2 (by omega) (by omega), h 3 (by omega) (by omega), h1]
    omega
  · rw [h 0 (by omega) (by omega), h 1 (by omega) (by omega), h 3 (by omega) (by omega), h1]
    omega
  · rw [h 0 (by omega) (by omega), h 1 (by omega) (by omega), h 2 (by omega) (by omega), h1]
    omega
/-- whether a player must wait -/
def umw (M : MT) (i b : Nat) : Prop := ¬ M 13 i = -1 ∧ ¬ M 13 i = nI b ∧ M 14 i / 30 = M 1 0 / 30
theorem c_mayJoin (h : uRR n Z M S C E P) {i b : Nat} (hi : i < Z.2.2 1) : (umw M i b → fX4_mayJoin i (nI b) (Z.1 0 0 6 / 30) Z = some 0) ∧ (¬ umw M i b → fX4_mayJoin i (nI b) (Z.1 0 0 6 / 30) Z = some 1) := by
  obtain ⟨f1, f2, f3, f4, f5⟩ := h.2.2.2.2.1.2.2 i hi
  have e6 : Z.1 0 0 6 = M 1 0 := h.1.2.1
  unfold fX4_mayJoin
  rw [cLv9 hi, gdt, f4, e6]
  by_cases h1 : M 13 i = -1
  · rw [if_pos h1]
    exact ⟨fun q => absurd h1 q.1, fun _ => rfl⟩
  · rw [if_neg h1, f5 h1]
    by_cases h2 : M 13 i = nI b
    · rw [if_pos h2]
      exact ⟨fun q => absurd h2 q.2.1, fun _ => rfl⟩
    · rw [if_neg h2]
      by_cases h3 : M 14 i / 30 = M 1 0 / 30
      · rw [if_pos h3]
        exact ⟨fun _ => rfl, fun q => absurd ⟨h1, h2, h3⟩ q⟩
      · rw [if_neg h3]
        exact ⟨fun q => absurd q.2.2 h3, fun _ => rfl⟩
theorem m_join20 (h : uRR n Z M S C E P) {i b : Nat} (hi : i < Z.2.2 1) : (umw M i b → fX7_join_20 (nI i) (nI b) 1 M = fX7_join_69 (nI i) (nI b) 1 1 M) ∧ (¬ umw M i b → fX7_join_20 (nI i) (nI b) 1 M = fX7_join_69 (nI i) (nI b) 1 0 M) := by
  have hnl := h.nl.1
  unfold fX7_join_20 fX7_join_68
  rw [if_neg (by decide), gdn (by omega) (by omega), nIc (by omega), gdn (by omega) (by omega), gdn (by omega) (by omega)]
  by_cases h1 : M 13 i = -1
  · rw [if_pos h1]
    exact ⟨fun q => absurd h1 q.1, fun _ => rfl⟩
  · rw [if_neg h1]
    by_cases h2 : M 13 i = nI b
    · rw [if_pos h2]
      exact ⟨fun q => absurd h2 q.2.1, fun _ => rfl⟩
    · rw [if_neg h2]
      by_cases h3 : M 14 i / 30 = M 1 0 / 30
      · rw [if_pos h3]
        exact ⟨fun _ => rfl, fun q => absurd ⟨h1, h2, h3⟩ q⟩
      · rw [if_neg h3]
        exact ⟨fun q => absurd q.2.2 h3, fun _ => rfl⟩
theorem m_jz {x2 : Int32} {x : Nat} (hx : x < 32) : ∀ (d j fuel : Nat) (M' : MT), j + d = 6 → d < fuel → ∃ M'' : MT, lf4 fX7_join_168 fuel x2 (nI x) (nI j) M' = fX7_join_195 x2 M'' ∧ (∀ k, k ≠ 19 → M'' k = M' k) ∧ (∀ i, 6 * x + j ≤ i → i < 6 * x + 6 → M'' 19 i = 0) ∧ ∀ i, ¬ (6 * x + j ≤ i ∧ i < 6 * x + 6) → M'' 19 i = M' 19 i
  | _, _, 0, _, _, hf => absurd hf (by omega)
  | 0, j, fuel + 1, M', hj, _ => by
    refine ⟨M', ?_, fun _ _ => rfl, fun i q1 q2 => by omega, fun _ _ => rfl⟩
    rw [lf4_s]
    unfold fX7_join_168
    rw [show j = 6 by omega, if_pos (by decide)]
  | d + 1, j, fuel + 1, M', hj, hf => by
    obtain ⟨M'', z1, z2, z3, z4⟩ := m_jz (x2 := x2) hx d (j + 1) fuel (va_up M' 19 (upd (M' 19) (6 * x + j) 0)) (by omega) (by omega)
    refine ⟨M'', ?_, fun k hk => by rw [z2 k hk, vu_n hk], fun i q1 q2 => ?_, fun i q => ?_⟩
    · rw [lf4_s]
      unfold fX7_join_168
      rw [if_neg (show ¬ ((6 : Int32) ≤ nI j) from nI_ge (b := 6) (by omega) (by omega)), u_l6, nI_add, gdn (by omega) (by omega), nIc (by omega), bnd_e, bnd_e, u_a1]
      exact z1
    · by_cases e : i = 6 * x + j
      · rw [z4 i (by omega), vu_s, e, pk_us]
      · exact z3 i (by omega) q2
    · rw [z4 i (by omega), vu_s, pk_un (by omega)]
theorem ok_join : st_join (uR n) (uR (n + 1)) := by
  rintro Z M ⟨S, C, E, P, h⟩ a1 a2
  have hnl := h.nl.1
  rcases uIx_or a1 (n := Z.2.2 1) (by omega) with ⟨i, hi, rfl⟩ | hf
  · rcases uIx_or a2 (n := 4) (by omega) with ⟨b, hb, rfl⟩ | hf
    · have hS := h.nS hb
      have f8 := h.2.2.2.2.2.2.2.1 i hi
      have err : ∀ t0 : Int32, fX7_join_114 (nI i) (nI b) 1 M = some (0, va_up M 0 (fun _ => 2)) := fun _ => rfl
      have e36 : fX6_join_36 (nI b) i b 0 Z = some (.inr 3, Z) := rfl
      have ec : ∀ v r, fX0_seatOf b i Z = some v → (if v = -1 then (if (2 : Int32) ≤ Z.1 9 i 3 then fX6_join_35 (nI b) i b Z else fX6_join_36 (nI b) i b 1 Z) else fX6_join_35 (nI b) i b Z) = r → fX6_join (nI i) (nI b) Z = r := fun v r hv hr => by
        unfold fX6_join
        rw [h.playerAt hi, cx1_l, h.bandAt hb, cx1_l, cLv10 hb, gdt, hv, cl1_s, cLv9 hi, gdt]
        exact hr
      have em0 : fX7_join (nI i) (nI b) M = fX7_join_20 (nI i) (nI b) 1 M := by
        unfold fX7_join
        rw [h.isPlayer hi, cl1_s, if_neg (by decide), m_isBand hb, cl1_s, if_neg (by decide)]
      have em : ∀ r, (∀ t : Int32, (t = 1 ∧ umw M i b ∨ t = 0 ∧ ¬ umw M i b) → fX7_join_69 (nI i) (nI b) 1 t M = r) → fX7_join (nI i) (nI b) M = r := fun r hr => by
        rw [em0]
        by_cases hw : umw M i b
        · rw [(m_join20 h hi).1 hw]
          exact hr 1 (Or.inl ⟨rfl, hw⟩)
        · rw [(m_join20 h hi).2 hw]
          exact hr 0 (Or.inr ⟨rfl, hw⟩)
      rcases uin_or S P b i with ⟨u1, k, hk, e⟩ | ⟨u1, e⟩
      · refine sI_err (j := 1) ⟨S, C, E, P, h⟩ (em _ (fun t ht => ?_)) (ec _ (some (.inr 3, Z)) (c_seatOf_t h hi hb hk e) ?_) rfl rfl
        · unfold fX7_join_69
          rw [if_neg (by decide), m_seatOf_t h hi hb hk e, cl1_s, if_neg (by rw [nIm1 (by omega)]; exact id)]
          rfl
        · rw [if_neg (by rw [nIm1 (by omega)]; exact id)]
          rfl
      · by_cases h2 : 2 ≤ ucnt S P i
        · refine sI_err (j := 1) ⟨S, C, E, P, h⟩ (em _ (fun t ht => ?_)) (ec _ (some (.inr 3, Z)) (c_seatOf_f h hi hb e) ?_) rfl rfl
          · unfold fX7_join_69
            rw [if_neg (by decide), m_seatOf_f h hi hb e, cl1_s, if_pos (by decide), m_bandsOf h hi, cl1_s, if_pos (show (2 : Int32) ≤ nI (ucnt S P i) from nI_le (a := 2) h2 (by omega))]
            rfl
          · rw [if_pos (by decide), f8.1, if_pos (show (2 : Int32) ≤ nI (ucnt S P i) from nI_le (a := 2) h2 (by omega))]
            rfl
        · have h2' : ¬ ((2 : Int32) ≤ nI (ucnt S P i)) := nI_ge (b := 2) (by omega) (by omega)
          have ec' : ∀ r, (if (8 : Int32) ≤ nI (S b) then fX6_join_57 (nI b) i b 0 Z else fX6_join_57 (nI b) i b 1 Z) = r → fX6_join (nI i) (nI b) Z = r := fun r hr => ec _ r (c_seatOf_f h hi hb e) (by
            rw [if_pos (by decide), f8.1, if_neg h2']
            unfold fX6_join_36
            rw [c_rs_1, cx1_l, cLv10 hb, gdt, cLv3 (by omega), gdt, (h.ls4 hb).size (by omega), cl1_s]
            exact hr)
          have em' : ∀ r, (∀ t : Int32, (t = 1 ∧ umw M i b ∨ t = 0 ∧ ¬ umw M i b) → (if (8 : Int32) ≤ nI (S b) then fX7_join_114 (nI i) (nI b) 1 M else (if t = 0 then fX7_join_115 (nI i) (nI b) 1 1 M else fX7_join_114 (nI i) (nI b) 1 M)) = r) → fX7_join (nI i) (nI b) M = r := fun r hr => em r (fun t ht => by
            unfold fX7_join_69
            rw [if_neg (by decide), m_seatOf_f h hi hb e, cl1_s, if_pos (by decide), m_bandsOf h hi, cl1_s, if_neg h2', gdn hb (by omega), nIc (by omega), hS.2]
            exact hr t ht)
          by_cases h8 : S b = 8
          · refine sI_err (j := 1) ⟨S, C, E, P, h⟩ (em' _ (fun t ht => ?_)) (ec' (some (.inr 3, Z)) ?_) rfl rfl
            · rw [h8, if_pos (by decide)]
              rfl
            · rw [h8, if_pos (by decide)]
              rfl
          · have h8' : ¬ ((8 : Int32) ≤ nI (S b)) := nI_ge (b := 8) (by omega) (by omega)
            by_cases hw : umw M i b
            · refine sI_err (j := 1) ⟨S, C, E, P, h⟩ (em' _ (fun t ht => ?_)) (ec' (some (.inr 3, Z)) ?_) rfl rfl
              · rw [if_neg h8']
                rcases ht with ⟨rfl, _⟩ | ⟨_, q⟩
                · rw [if_neg (by decide)]
                  rfl
                · exact absurd hw q
              · rw [if_neg h8']
                unfold fX6_join_57 fX6_seasonNow
                rw [c_rs_1, cx1_l, cl1_s, cLv9 hi, gdt, (c_mayJoin h hi).1 hw, cl1_s, c_rs_0, cx1_r]
            · have hR := h.crl
              have hR1 : cRL (zSeat Z (Z.2.2 2) i) := by
                refine ⟨fun l j q hl hq => ?_, hR.2.1, fun j p hj hp => ?_⟩
                · have hl' := hR.1 l j q hl hq
                  match l, hl, hl' with
                  | 0, _, hl' => exact hl'
                  | 1, _, hl' => exact hl'
                  | 2, _, hl' => exact hl'
                  | 3, _, hl' => exact hl'
                  | l + 4, _, hl' =>
                    have : q < Z.2.2 2 := of_decide_eq_true hl'
                    exact cLv13 (show q < va_up Z.2.2 2 (Z.2.2 2 + 1) 2 by rw [vu_s]; omega)
                · have hj' : j < va_up Z.2.2 2 (Z.2.2 2 + 1) 2 := of_decide_eq_true hj
                  rw [vu_s] at hj'
                  by_cases e : j = Z.2.2 2
                  · subst e
                    have : (zSeat Z (Z.2.2 2) i).2.1 13 (Z.2.2 2) 0 = some i := by
                      show (if 13 = 13 ∧ Z.2.2 2 = Z.2.2 2 then fun _ => some i else Z.2.1 13 (Z.2.2 2)) 0 = some i
                      rw [if_pos ⟨rfl, rfl⟩]
                    rw [this] at hp
                    cases hp
                    exact cLv9 hi
                  · have : (zSeat Z (Z.2.2 2) i).2.1 13 j 0 = Z.2.1 13 j 0 := by
                      show (if 13 = 13 ∧ j = Z.2.2 2 then fun _ => some i else Z.2.1 13 j) 0 = _
                      rw [if_neg (fun z => e z.2)]
                    rw [this] at hp
                    exact hR.2.2 j p (cLv13 (by omega)) hp
              have hu : ∀ b', b' < 4 → uLs (zSeat Z (Z.2.2 2) i) (b' + 4) (S b') (E b') := fun b' hb' => by
                have hb'' := h.ls4 hb'
                unfold uLs
                rw [show (zSeat Z (Z.2.2 2) i).2.2 (10 + (b' + 4)) = Z.2.2 (10 + (b' + 4)) from (show va_up Z.2.2 2 (Z.2.2 2 + 1) (10 + (b' + 4)) = _ from vu_n (by omega))]
                exact hb''
              have hok : okAdd (zSeat Z (Z.2.2 2) i) (b + 4) (Z.2.2 2) := okA (hu b hb) (by omega) (by omega) hR1 (cLv13 (show Z.2.2 2 < va_up Z.2.2 2 (Z.2.2 2 + 1) 2 by rw [vu_s]; omega))
              have hadd : uLs (zAdd (zSeat Z (Z.2.2 2) i) (b + 4) (Z.2.2 2)) (b + 4) (S b + 1) (fun k => if k = S b then Z.2.2 2 else E b k) := (hu b hb).add (by omega) (fun k hk => if_neg (by omega)) (if_pos rfl)
              have c1 : (zAdd (zSeat Z (Z.2.2 2) i) (b + 4) (Z.2.2 2)).2.2 1 = Z.2.2 1 := by
                rw [zA_c (by omega)]
                show va_up Z.2.2 2 (Z.2.2 2 + 1) 1 = _
                exact vu_n (by omega)
              have c0 : (zAdd (zSeat Z (Z.2.2 2) i) (b + 4) (Z.2.2 2)).2.2 0 = Z.2.2 0 := by
                rw [zA_c (by omega)]
                show va_up Z.2.2 2 (Z.2.2 2 + 1) 0 = _
                exact vu_n (by omega)
              have c2 : (zAdd (zSeat Z (Z.2.2 2) i) (b + 4) (Z.2.2 2)).2.2 2 = Z.2.2 2 + 1 := by
                rw [zA_c (by omega)]
                show va_up Z.2.2 2 (Z.2.2 2 + 1) 2 = _
                exact vu_s
              have n14s : (zAdd (zSeat Z (Z.2.2 2) i) (b + 4) (Z.2.2 2)).1 14 (Z.2.2 2) = fun _ => 0 := by
                rw [zA_1 (by omega)]
                exact if_pos ⟨rfl, rfl⟩
              have n14n : ∀ e, e ≠ Z.2.2 2 → (zAdd (zSeat Z (Z.2.2 2) i) (b + 4) (Z.2.2 2)).1 14 e = Z.1 14 e := fun e he => by
                rw [zA_1 (by omega)]
                exact if_neg (fun q => he q.2)
              have q13s : (zAdd (zSeat Z (Z.2.2 2) i) (b + 4) (Z.2.2 2)).2.1 13 (Z.2.2 2) = fun _ => some i := by
                rw [zA_2 (by omega)]
                exact if_pos ⟨rfl, rfl⟩
              have q13n : ∀ e, e ≠ Z.2.2 2 → (zAdd (zSeat Z (Z.2.2 2) i) (b + 4) (Z.2.2 2)).2.1 13 e = Z.2.1 13 e := fun e he => by
                rw [zA_2 (by omega)]
                exact if_neg (fun q => he q.2)
              have n9 : (zAdd (zSeat Z (Z.2.2 2) i) (b + 4) (Z.2.2 2)).1 9 = Z.1 9 := by
                rw [zA_1 (by omega)]
                rfl
              obtain ⟨Mz, z1, z2, z3, z4⟩ := m_jz (x2 := nI b) (x := 8 * b + S b) (by omega) 6 0 100 (va_up (va_up M 0 (fun _ => 0)) 16 (upd (M 16) (8 * b + S b) (nI i))) (by omega) (by omega)
              have eMz := up_eq z2
              have z1' : lf4 fX7_join_168 100 (nI b) (nI (8 * b + S b)) 0 (va_up (va_up M 0 (fun _ => 0)) 16 (upd (M 16) (8 * b + S b) (nI i))) = fX7_join_195 (nI b) Mz := z1
              have H : uRR n (cuI (zAdd (zSeat Z (Z.2.2 2) i) (b + 4) (Z.2.2 2)) 9 i (upd (Z.1 9 i) 3 (nI (ucnt S P i + 1)))) (va_up (va_up (va_up (va_up M 0 (fun _ => 0)) 16 (upd (M 16) (8 * b + S b) (nI i))) 19 (Mz 19)) 15 (upd (M 15) b (nI (S b + 1)))) (va_up S b (S b + 1)) C (fun b' k => if b' = b ∧ k = S b then Z.2.2 2 else E b' k) (fun b' k => if b' = b ∧ k = S b then i else P b' k) := by
                obtain ⟨r1, r2, r3, r4, r5, r6, r7, r8, r9, r10, r11⟩ := h
                have Ps : (fun b' k => if b' = b ∧ k = S b then i else P b' k) b (S b) = i := if_pos ⟨rfl, rfl⟩
                have Po : ∀ b' k, b' < 4 → k < S b' → (fun b' k => if b' = b ∧ k = S b then i else P b' k) b' k = P b' k := fun b' k hb' hk => if_neg (fun q => by
                  obtain ⟨rfl, rfl⟩ := q
                  omega)
                have Eo : ∀ b' k, b' < 4 → k < S b' → (fun b' k => if b' = b ∧ k = S b then Z.2.2 2 else E b' k) b' k = E b' k := fun b' k hb' hk => if_neg (fun q => by
                  obtain ⟨rfl, rfl⟩ := q
                  omega)
                have Es : (fun b' k => if b' = b ∧ k = S b then Z.2.2 2 else E b' k) b (S b) = Z.2.2 2 := if_pos ⟨rfl, rfl⟩
                generalize hP' : (fun b' k => if b' = b ∧ k = S b then i else P b' k) = P' at *
                generalize hE' : (fun b' k => if b' = b ∧ k = S b then Z.2.2 2 else E b' k) = E' at *
                have nseat : ∀ k, k < S b → P b k ≠ i := e
                have cs : ∀ b' k, b' < 4 → k < va_up S b (S b + 1) b' → (b' = b ∧ k = S b) ∨ k < S b' := fun b' k hb' hk => by
                  by_cases hbb : b' = b
                  · subst hbb
                    rw [vu_s] at hk
                    omega
                  · rw [vu_n hbb] at hk
                    exact Or.inr hk
                refine ⟨r1, ?_, ⟨?_, ?_, ?_, ?_⟩, fun b' hb' => ?_, ?_, ?_, ⟨fun b' hb' => ?_, fun b' k hb' hk => ?_, fun b' k k' hb' hk hk' e => ?_, fun b' k b'' k' hb' hk hb'' hk' e => ?_, fun j p hj hp => ?_⟩, fun i' hi' => ?_, fun b' k j hb' hk hj => ?_, r10, r11⟩
                · show uR2 n ((zAdd (zSeat Z (Z.2.2 2) i) (b + 4) (Z.2.2 2)).2.2 0) _ _ _ _ _ _ _ _
                  rw [c0]
                  exact r2
                · show uL _ _ _ ((zAdd (zSeat Z (Z.2.2 2) i) (b + 4) (Z.2.2 2)).2.2 0) _
                  rw [c0]
                  exact (show uLs (zSeat Z (Z.2.2 2) i) 0 (Z.2.2 0) id from r3.1).addn (show 0 ≠ b + 4 by omega)
                · show uL _ _ _ ((zAdd (zSeat Z (Z.2.2 2) i) (b + 4) (Z.2.2 2)).2.2 1) _
                  rw [c1]
                  exact (show uLs (zSeat Z (Z.2.2 2) i) 1 (Z.2.2 1) id from r3.2.1).addn (show 1 ≠ b + 4 by omega)
                · exact (show uLs (zSeat Z (Z.2.2 2) i) 2 4 id from r3.2.2.1).addn (show 2 ≠ b + 4 by omega)
                · exact (show uLs (zSeat Z (Z.2.2 2) i) 3 3 (fun t => 6 + t) from r3.2.2.2).addn (show 3 ≠ b + 4 by omega)
                · by_cases hbb : b' = b
                  · subst hbb
                    rw [vu_s]
                    have eE : (fun k => if k = S b' then Z.2.2 2 else E b' k) = E' b' := by
                      rw [← hE']
                      funext k
                      by_cases hk : k = S b'
                      · rw [if_pos hk]
                        exact (if_pos ⟨rfl, hk⟩).symm
                      · rw [if_neg hk]
                        exact (if_neg (fun q => hk q.2)).symm
                    rw [eE] at hadd
                    exact hadd
                  · rw [vu_n hbb]
                    have eE : E' b' = E b' := by
                      rw [← hE']
                      funext k
                      exact if_neg (fun q => hbb q.1)
                    rw [eE]
                    exact (hu b' hb').addn (by omega)
                · show uR5 ((zAdd (zSeat Z (Z.2.2 2) i) (b + 4) (Z.2.2 2)).2.2 1) _ _ _ _ _
                  rw [c1]
                  refine ⟨r5.1, r5.2.1, fun i' hi' => ?_⟩
                  have g := r5.2.2 i' hi'
                  by_cases ei : i' = i
                  · subst ei
                    rw [cuI_s]
                    exact g
                  · rw [cuI_n (fun q => ei q.2), n9]
                    exact g
                · show uR6 ((zAdd (zSeat Z (Z.2.2 2) i) (b + 4) (Z.2.2 2)).2.2 0) ((zAdd (zSeat Z (Z.2.2 2) i) (b + 4) (Z.2.2 2)).2.2 1) _ _ _
                  rw [c0, c1]
                  exact r6
                · show _ ∧ upd (M 15) b (nI (S b + 1)) b' = _
                  by_cases hbb : b' = b
                  · subst hbb
                    rw [vu_s, pk_us]
                    exact ⟨by omega, rfl⟩
                  · rw [vu_n hbb, pk_un hbb]
                    exact r7.1 b' hb'
                · show E' b' k < (zAdd (zSeat Z (Z.2.2 2) i) (b + 4) (Z.2.2 2)).2.2 2 ∧ P' b' k < (zAdd (zSeat Z (Z.2.2 2) i) (b + 4) (Z.2.2 2)).2.2 1 ∧ (zAdd (zSeat Z (Z.2.2 2) i) (b + 4) (Z.2.2 2)).2.1 13 (E' b' k) 0 = some (P' b' k) ∧ upd (M 16) (8 * b + S b) (nI i) (8 * b' + k) = nI (P' b' k)
                  rw [c1, c2]
                  rcases cs b' k hb' hk with ⟨rfl, rfl⟩ | hk
                  · rw [Es, Ps, q13s, pk_us]
                    exact ⟨by omega, hi, rfl, rfl⟩
                  · obtain ⟨g1, g2, g3, g4⟩ := r7.2.1 b' k hb' hk
                    have := (r7.1 b' hb').1
                    rw [Eo b' k hb' hk, Po b' k hb' hk, q13n _ (by omega), pk_un (fun q => by
                      have : b' = b ∧ k = S b := by omega
                      obtain ⟨rfl, rfl⟩ := this
                      omega)]
                    exact ⟨by omega, g2, g3, g4⟩
                · rcases cs b' k hb' hk with ⟨y1, y2⟩ | hk
                  · rcases cs b' k' hb' hk' with ⟨_, y3⟩ | hk'
                    · rw [y2, y3]
                    · rw [y1, y2, Ps, ← y1, Po b' k' hb' hk'] at e
                      rw [y1] at e hk'
                      exact absurd e.symm (nseat k' hk')
                  · rcases cs b' k' hb' hk' with ⟨y1, y2⟩ | hk'
                    · rw [Po b' k hb' hk, y1, y2, Ps] at e
                      rw [y1] at hk
                      exact absurd e (nseat k hk)
                    · rw [Po b' k hb' hk, Po b' k' hb' hk'] at e
                      exact r7.2.2.1 b' k k' hb' hk hk' e
                · rcases cs b' k hb' hk with ⟨y1, y2⟩ | hk
                  · rcases cs b'' k' hb'' hk' with ⟨y3, y4⟩ | hk'
                    · exact ⟨by rw [y1, y3], by rw [y2, y4]⟩
                    · have := (r7.2.1 b'' k' hb'' hk').1
                      rw [y1, y2, Es, Eo b'' k' hb'' hk'] at e
                      omega
                  · rcases cs b'' k' hb'' hk' with ⟨y3, y4⟩ | hk'
                    · have := (r7.2.1 b' k hb' hk).1
                      rw [y3, y4, Es, Eo b' k hb' hk] at e
                      omega
                    · rw [Eo b' k hb' hk, Eo b'' k' hb'' hk'] at e
                      exact r7.2.2.2.1 b' k b'' k' hb' hk hb'' hk' e
                · have hj' : j < Z.2.2 2 + 1 := by
                    rw [← c2]
                    exact hj
                  show p < (zAdd (zSeat Z (Z.2.2 2) i) (b + 4) (Z.2.2 2)).2.2 1
                  rw [c1]
                  by_cases ej : j = Z.2.2 2
                  · have hp' : (zAdd (zSeat Z (Z.2.2 2) i) (b + 4) (Z.2.2 2)).2.1 13 j 0 = some p := hp
                    rw [ej, q13s] at hp'
                    cases hp'
                    exact hi
                  · have hp' : (zAdd (zSeat Z (Z.2.2 2) i) (b + 4) (Z.2.2 2)).2.1 13 j 0 = some p := hp
                    rw [q13n j ej] at hp'
                    exact r7.2.2.2.2 j p (by omega) hp'
                · have hi'' : i' < Z.2.2 1 := by
                    rw [← c1]
                    exact hi'
                  have cb : ∀ b', b' < 4 → b' ≠ b → uin (va_up S b (S b + 1)) P' b' i' = uin S P b' i' := fun b' hb' hbb => uin_o ⟨fun ⟨k, k1, k2⟩ => by
                    rw [vu_n hbb] at k1
                    rw [Po b' k hb' k1] at k2
                    exact ⟨k, k1, k2⟩, fun ⟨k, k1, k2⟩ => ⟨k, by rw [vu_n hbb]; exact k1, by rw [Po b' k hb' k1]; exact k2⟩⟩
                  obtain ⟨g1, g2⟩ := r8 i' hi''
                  by_cases ei : i' = i
                  · subst ei
                    have hs : uin (va_up S b (S b + 1)) P' b i' = uin S P b i' + 1 := by
                      rw [u1]
                      exact uin_1 (k := S b) (by rw [vu_s]; omega) Ps
                    rw [ucnt_1 hb cb hs, cuI_s, pk_us]
                    exact ⟨rfl, by omega⟩
                  · have hs : uin (va_up S b (S b + 1)) P' b i' = uin S P b i' := uin_o ⟨fun ⟨k, k1, k2⟩ => by
                      rw [vu_s] at k1
                      by_cases ek : k = S b
                      · rw [ek, Ps] at k2
                        exact absurd k2.symm ei
                      · have hk : k < S b := by omega
                        rw [Po b k hb hk] at k2
                        exact ⟨k, hk, k2⟩, fun ⟨k, k1, k2⟩ => ⟨k, by rw [vu_s]; omega, by rw [Po b k hb k1]; exact k2⟩⟩
                    have ho : ucnt (va_up S b (S b + 1)) P' i' = ucnt S P i' := ucnt_o (fun b' hb' => by
                      by_cases hbb : b' = b
                      · rw [hbb]
                        exact hs
                      · exact cb b' hb' hbb)
                    rw [ho, cuI_n (fun q => ei q.2), n9]
                    exact ⟨g1, g2⟩
                · have hS' := (r7.1 b hb).1
                  show (zAdd (zSeat Z (Z.2.2 2) i) (b + 4) (Z.2.2 2)).1 14 (E' b' k) j = Mz 19 (6 * (8 * b' + k) + j) ∧ (Mz 19 (6 * (8 * b' + k) + j) = 0 ∨ Mz 19 (6 * (8 * b' + k) + j) = 1 ∨ Mz 19 (6 * (8 * b' + k) + j) = 2)
                  rcases cs b' k hb' hk with ⟨y1, y2⟩ | hk
                  · rw [y1, y2, Es, n14s, z3 _ (by omega) (by omega)]
                    exact ⟨rfl, Or.inl rfl⟩
                  · obtain ⟨g1, g2⟩ := r9 b' k j hb' hk hj
                    have hS'' := (r7.1 b' hb').1
                    have hne : ¬ (b' = b ∧ k = S b) := fun q => by
                      rw [q.1] at hk
                      omega
                    have hlt := (r7.2.1 b' k hb' hk).1
                    rw [Eo b' k hb' hk, n14n _ (by omega), z4 _ (fun q => hne (by omega))]
                    exact ⟨g1, g2⟩
              have hle : ¬ ((8 : Int32) ≤ nI (S b)) := h8'
              have S1 : (va_up S b (S b + 1)) b = S b + 1 := vu_s
              refine ⟨nI (S b), _, _, em' _ (fun t ht => ?_), ⟨_, C, _, _, H.up⟩, Or.inl ⟨ec' _ ?_, ?_⟩⟩
              · rw [if_neg h8']
                rcases ht with ⟨_, q⟩ | ⟨rfl, _⟩
                · exact absurd q hw
                · rw [if_pos (by decide)]
                  unfold fX7_join_115
                  rw [if_neg (by decide), if_neg (by decide)]
                  unfold fX7_join_136
                  rw [m_holds_0, cl2_s, if_neg (by decide), gdn hb (by omega), nIc (by omega)]
                  show bnd (8 * nI b + M 15 b) _ = _
                  rw [hS.2, u_l8, nI_add, bnd_e, gdn (by omega) (by omega), bnd_e, nIc (by omega)]
                  rw [show lf4 fX7_join_168 100 (nI b) (nI (8 * b + S b)) 0 (va_up (va_up M 0 (fun _ => 0)) 16 (upd (va_up M 0 (fun _ => 0) 16) (8 * b + S b) (nI i))) = fX7_join_195 (nI b) Mz from z1']
                  unfold fX7_join_195
                  rw [gdn hb (by omega), gdn hb (by omega), bnd_e, gdn hb (by omega), nIc (by omega), z2 15 (by omega)]
                  show some (upd (M 15) b (M 15 b + 1) b - 1, va_up Mz 15 (upd (M 15) b (M 15 b + 1))) = _
                  rw [pk_us, hS.2, u_a1, nI_pred, ← eMz]
              · rw [if_neg h8']
                unfold fX6_join_57 fX6_seasonNow
                have l9 : cLv (zAdd (zSeat Z (Z.2.2 2) i) (b + 4) (Z.2.2 2)).2.2 9 i = true := cLv9 (by rw [c1]; exact hi)
                rw [c_rs_1, cx1_l, cl1_s, cLv9 hi, gdt, (c_mayJoin h hi).2 hw, cl1_s, c_rs_1, cx1_l, cLv10 hb, gdt, gp_t hR, bnd_e, bnd_e, gp_t hok, bnd_e, l9, gdt, n9, f8.1, u_a1, bnd_e]
                have l10 : cLv (cuI (zAdd (zSeat Z (Z.2.2 2) i) (b + 4) (Z.2.2 2)) 9 i (upd (Z.1 9 i) 3 (nI (ucnt S P i + 1)))).2.2 10 b = true := cLv10 hb
                have hs := H.ls4 hb
                rw [l10, gdt, cLv3 (by omega), gdt, hs.size (by omega), cl1_s, S1, nI_pred]
              · rfl
    · refine sI_err (cd := 1) (j := 0) ⟨S, C, E, P, h⟩ ?_ ?_ rfl rfl
      · unfold fX7_join
        rw [h.isPlayer hi, cl1_s, if_neg (by decide), m_isBandF hf, cl1_s, if_pos (by decide)]
        rfl
      · unfold fX6_join
        rw [h.playerAt hi, cx1_l, h.bandAtF hf, cx1_r]
  · refine sI_err (cd := 1) (j := 0) ⟨S, C, E, P, h⟩ ?_ ?_ rfl rfl
    · unfold fX7_join
      rw [h.isPlayerF hf, cl1_s, if_pos (by decide)]
      rfl
    · unfold fX6_join
      rw [h.playerAtF hf, cx1_r]
end URJ
