/-! PURE PART. The law's start. -/
def M0 : MT := fun k => match k with
  | 21 => fun _ => -1
  | 26 => fun _ => -1
  | _ => fun _ => 0
theorem u0_12 : ∀ b, b < 4 → ∀ j, j < 5 → Z0.1 12 b j = -1 ∧ M0 26 (5 * b + j) = -1 := by decide +kernel
theorem u0_10 : ∀ b, b < 4 → Z0.1 10 b 3 = 0 ∧ Z0.1 10 b 4 = -1 ∧ Z0.1 10 b 5 = -1 ∧ Z0.1 10 b 6 = 0 ∧ M0 21 b = -1 := by decide +kernel
theorem uRR_0 : uRR 0 Z0 M0 (fun _ => 0) (fun _ => 0) (fun _ _ => 0) (fun _ _ => 0) := by
  refine ⟨⟨rfl, rfl, ⟨0, by omega, rfl⟩, 0, by omega, rfl⟩, ⟨Nat.zero_le 6, rfl, fun i hi => absurd hi (Nat.not_lt_zero i), fun i f hi => absurd hi (Nat.not_lt_zero i), fun j _ _ => ⟨rfl, rfl⟩⟩, ⟨uL_0 rfl rfl rfl, uL_0 rfl rfl rfl, ⟨rfl, Or.inr (Or.inl ⟨rfl, by omega⟩), fun j hj => ?_, fun j hj => ?_⟩, ⟨rfl, Or.inr (Or.inl ⟨rfl, by omega⟩), fun j hj => ?_, fun j hj => ?_⟩⟩, fun b hb => ?_, ⟨Nat.zero_le 16, rfl, fun i hi => absurd hi (Nat.not_lt_zero i)⟩, ⟨fun i hi => absurd hi (Nat.not_lt_zero i), fun i _ _ hi => absurd hi (Nat.not_lt_zero i), fun q hq => absurd hq (Nat.not_lt_zero q)⟩, ⟨fun b _ => ⟨Nat.zero_le 8, rfl⟩, fun b k _ hk => absurd hk (Nat.not_lt_zero k), fun b k k' _ hk => absurd hk (Nat.not_lt_zero k), fun b k b' k' _ hk => absurd hk (Nat.not_lt_zero k), fun j p hj => absurd hj (Nat.not_lt_zero j)⟩, fun i hi => absurd hi (Nat.not_lt_zero i), fun b k j _ hk => absurd hk (Nat.not_lt_zero k), fun b hb => ⟨Nat.zero_le 24, rfl, (u0_10 b hb).1, fun j _ => ⟨rfl, 0, by omega, rfl⟩⟩, fun b hb => ?_, fun b hb => ⟨fun j hj => ?_, ?_⟩⟩
  · have : j = 0 ∨ j = 1 ∨ j = 2 ∨ j = 3 := by omega
    rcases this with rfl | rfl | rfl | rfl <;> rfl
  · show (va_up (va_up (va_up (va_up (fun _ => none) 0 (some 0)) ((0 + 1)) (some 1)) (((0 + 1) + 1)) (some 2)) ((((0 + 1) + 1) + 1)) (some 3)) j = none
    rw [vu_n (by omega), vu_n (by omega), vu_n (by omega), vu_n (by omega)]
  · have : j = 0 ∨ j = 1 ∨ j = 2 := by omega
    rcases this with rfl | rfl | rfl <;> rfl
  · show (va_up (va_up (va_up (fun _ => none) 0 (some 6)) ((0 + 1)) (some 7)) (((0 + 1) + 1)) (some 8)) j = none
    rw [vu_n (by omega), vu_n (by omega), vu_n (by omega)]
  · have : b = 0 ∨ b = 1 ∨ b = 2 ∨ b = 3 := by omega
    rcases this with rfl | rfl | rfl | rfl <;> exact uL_0 rfl rfl rfl
  · obtain ⟨_, g2, g3, g4, g5⟩ := u0_10 b hb
    exact ⟨g2.trans g5.symm, g4, Or.inl ⟨rfl, g3, rfl⟩⟩
  · obtain ⟨g1, g2⟩ := u0_12 b hb j hj
    exact ⟨g1.trans g2.symm, Or.inl g2⟩
  · rw [umk_0 (u0_12 b hb 0 (by omega)).2, umk_0 (u0_12 b hb 1 (by omega)).2, umk_0 (u0_12 b hb 2 (by omega)).2, umk_0 (u0_12 b hb 3 (by omega)).2, umk_0 (u0_12 b hb 4 (by omega)).2]
    rfl
theorem INV0 {Z : CZ} (h : uRR 0 Z M0 (fun _ => 0) (fun _ => 0) (fun _ _ => 0) (fun _ _ => 0)) (hz : Z.2 = Z0.2) : INV 0 Z (fun _ => 0) := by
  refine ⟨M0, _, _, _, _, h, ⟨by rw [hz]; rfl, by rw [hz]; rfl, rfl, rfl⟩, ⟨⟨0, by omega, rfl, fun b _ => Or.inl rfl⟩, fun b _ => ⟨0, by omega, rfl⟩⟩⟩
/-- what a new yard answers -/
theorem p_start : fX6_night Z0 = some 0 ∧ fX6_rank_n 0 Z0 = some (-1) ∧ ∃ Z1 : CZ, Z1.2 = Z0.2 ∧ INV 0 Z1 (fun _ => 0) ∧ fX6_leaps_n 3 Z0 = some (-1, Z1) ∧ fX6_ofBand_n 2 3 Z1 = some (-1) ∧ fX6_ofBand_n 2 4 Z1 = some 0 := by
  refine ⟨rfl, ?_, ?_⟩
  · obtain ⟨w, e, n1, _⟩ := k_rank uRR_0 (show 0 < 4 by omega)
    rw [n1 (fun b _ hr => absurd (show (0 : Int32) = 5 from hr) (by decide))] at e
    exact nb_rank _ _ _ e
  · obtain ⟨Z1, h1, z1, ⟨hy, e⟩ | ⟨_, e⟩⟩ := q_leaps uRR_0 (show 3 < 4 by omega)
    · exact absurd hy.1 (by decide)
    · refine ⟨Z1, z1, INV0 h1 z1, e, ?_, ?_⟩
      · exact (q_ofBand3 h1 (b := 2) (by omega)).trans rfl
      · exact (q_ofBand4 h1 (b := 2) (by omega)).trans rfl
