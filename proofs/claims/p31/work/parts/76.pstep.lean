/-! PURE PART. A step of the law. -/
section PL5
variable {n : Nat} {Z : CZ} {F : Nat → Int32}
theorem s_64 (hn : n + 6 < 512) (h : INV n Z F) {a b p i d t : Nat} (ha : a < 2147483648) (hb : b < 2147483648) (hd : d < 4) (hp : 2 ≤ t → p < Z.2.2 0) (hi : 2 ≤ t → i < Z.2.2 1) (ht : t < 26) : GO n (fL_step_64 (nI a) (nI b) (nI p) (nI i) (nI d) (nI t) Z F) := by
  have ne : ∀ k, k < 26 → t ≠ k → ¬ nI t = nI k := fun k hk q z => q ((nI_eq (by omega) (by omega)).mp z)
  unfold fL_step_64
  by_cases q0 : t = 0
  · rw [if_pos (show nI t = (0 : Int32) from by rw [q0]; rfl)]
    exact p_pan h ha hb
  rw [if_neg (show ¬ nI t = (0 : Int32) from ne 0 (by omega) q0)]
  by_cases q1 : t = 1
  · rw [if_pos (show nI t = (1 : Int32) from by rw [q1]; rfl)]
    exact p_player h hb
  rw [if_neg (show ¬ nI t = (1 : Int32) from ne 1 (by omega) q1)]
  by_cases q2 : t = 2
  · rw [if_pos (show nI t = (2 : Int32) from by rw [q2]; rfl)]
    exact p_beat hn h hb (hp (by omega))
  rw [if_neg (show ¬ nI t = (2 : Int32) from ne 2 (by omega) q2)]
  by_cases q3 : t = 3
  · rw [if_pos (show nI t = (3 : Int32) from by rw [q3]; rfl)]
    exact p_beat hn h hb (hp (by omega))
  rw [if_neg (show ¬ nI t = (3 : Int32) from ne 3 (by omega) q3)]
  by_cases q4 : t = 4
  · rw [if_pos (show nI t = (4 : Int32) from by rw [q4]; rfl)]
    exact p_heat h hb (hp (by omega))
  rw [if_neg (show ¬ nI t = (4 : Int32) from ne 4 (by omega) q4)]
  by_cases q5 : t = 5
  · rw [if_pos (show nI t = (5 : Int32) from by rw [q5]; rfl)]
    exact p_plan hn h (hp (by omega))
  rw [if_neg (show ¬ nI t = (5 : Int32) from ne 5 (by omega) q5)]
  by_cases q6 : t = 6
  · rw [if_pos (show nI t = (6 : Int32) from by rw [q6]; rfl)]
    exact p_join h (hi (by omega)) hd
  rw [if_neg (show ¬ nI t = (6 : Int32) from ne 6 (by omega) q6)]
  by_cases q7 : t = 7
  · rw [if_pos (show nI t = (7 : Int32) from by rw [q7]; rfl)]
    exact p_join h (hi (by omega)) hd
  rw [if_neg (show ¬ nI t = (7 : Int32) from ne 7 (by omega) q7)]
  by_cases q8 : t = 8
  · rw [if_pos (show nI t = (8 : Int32) from by rw [q8]; rfl)]
    exact p_join h (hi (by omega)) hd
  rw [if_neg (show ¬ nI t = (8 : Int32) from ne 8 (by omega) q8)]
  by_cases q9 : t = 9
  · rw [if_pos (show nI t = (9 : Int32) from by rw [q9]; rfl)]
    exact p_join h (hi (by omega)) hd
  rw [if_neg (show ¬ nI t = (9 : Int32) from ne 9 (by omega) q9)]
  by_cases q10 : t = 10
  · rw [if_pos (show nI t = (10 : Int32) from by rw [q10]; rfl)]
    exact p_leave h (hi (by omega)) hd
  rw [if_neg (show ¬ nI t = (10 : Int32) from ne 10 (by omega) q10)]
  by_cases q11 : t = 11
  · rw [if_pos (show nI t = (11 : Int32) from by rw [q11]; rfl)]
    exact p_give h (hi (by omega)) (hp (by omega))
  rw [if_neg (show ¬ nI t = (11 : Int32) from ne 11 (by omega) q11)]
  by_cases q12 : t = 12
  · rw [if_pos (show nI t = (12 : Int32) from by rw [q12]; rfl)]
    exact p_take h (hi (by omega))
  rw [if_neg (show ¬ nI t = (12 : Int32) from ne 12 (by omega) q12)]
  by_cases q13 : t = 13
  · rw [if_pos (show nI t = (13 : Int32) from by rw [q13]; rfl)]
    exact p_note h hb hd
  rw [if_neg (show ¬ nI t = (13 : Int32) from ne 13 (by omega) q13)]
  by_cases q14 : t = 14
  · rw [if_pos (show nI t = (14 : Int32) from by rw [q14]; rfl)]
    exact p_note h hb hd
  rw [if_neg (show ¬ nI t = (14 : Int32) from ne 14 (by omega) q14)]
  by_cases q15 : t = 15
  · rw [if_pos (show nI t = (15 : Int32) from by rw [q15]; rfl)]
    exact p_note h hb hd
  rw [if_neg (show ¬ nI t = (15 : Int32) from ne 15 (by omega) q15)]
  by_cases q16 : t = 16
  · rw [if_pos (show nI t = (16 : Int32) from by rw [q16]; rfl)]
    exact p_note h hb hd
  rw [if_neg (show ¬ nI t = (16 : Int32) from ne 16 (by omega) q16)]
  by_cases q17 : t = 17
  · rw [if_pos (show nI t = (17 : Int32) from by rw [q17]; rfl)]
    exact p_change h hb hd
  rw [if_neg (show ¬ nI t = (17 : Int32) from ne 17 (by omega) q17)]
  by_cases q18 : t = 18
  · rw [if_pos (show nI t = (18 : Int32) from by rw [q18]; rfl)]
    exact p_tell h hb hd
  rw [if_neg (show ¬ nI t = (18 : Int32) from ne 18 (by omega) q18)]
  by_cases q19 : t = 19
  · rw [if_pos (show nI t = (19 : Int32) from by rw [q19]; rfl)]
    exact p_tell h hb hd
  rw [if_neg (show ¬ nI t = (19 : Int32) from ne 19 (by omega) q19)]
  by_cases q20 : t = 20
  · rw [if_pos (show nI t = (20 : Int32) from by rw [q20]; rfl)]
    exact p_drill hn h hb hd
  rw [if_neg (show ¬ nI t = (20 : Int32) from ne 20 (by omega) q20)]
  by_cases q21 : t = 21
  · rw [if_pos (show nI t = (21 : Int32) from by rw [q21]; rfl)]
    exact p_drill hn h hb hd
  rw [if_neg (show ¬ nI t = (21 : Int32) from ne 21 (by omega) q21)]
  by_cases q22 : t = 22
  · rw [if_pos (show nI t = (22 : Int32) from by rw [q22]; rfl)]
    exact p_pass h ha hb hd
  rw [if_neg (show ¬ nI t = (22 : Int32) from ne 22 (by omega) q22)]
  by_cases q23 : t = 23
  · rw [if_pos (show nI t = (23 : Int32) from by rw [q23]; rfl)]
    exact p_perf hn h hb hd
  rw [if_neg (show ¬ nI t = (23 : Int32) from ne 23 (by omega) q23)]
  by_cases q24 : t = 24
  · rw [if_pos (show nI t = (24 : Int32) from by rw [q24]; rfl)]
    exact p_mark hn h hb hd
  rw [if_neg (show ¬ nI t = (24 : Int32) from ne 24 (by omega) q24)]
  exact p_parts h hd
theorem p_step (hn : n + 6 < 512) (h : INV n Z F) {w a b : Nat} (hw : w < 2147483648) (ha : a < 2147483648) (hb : b < 2147483648) : GO n (fL_step (nI w) (nI a) (nI b) Z F) := by
  obtain ⟨M, S, C, E, P, h0, hf, hx⟩ := id h
  obtain ⟨f0, f1, _, _⟩ := hf
  have np6 : Z.2.2 0 ≤ 6 := h0.np.1
  have nl16 : Z.2.2 1 ≤ 16 := h0.nl.1
  have hd : a % 4 < 4 := by omega
  have e33 : ∀ p i, (0 < Z.2.2 0 → p < Z.2.2 0) → (0 < Z.2.2 1 → i < Z.2.2 1) → GO n (fL_step_33 (nI w) (nI a) (nI b) (nI p) (nI i) Z F) := fun p i hp hi => by
    unfold fL_step_33
    rw [u_e4 ha, bnd_e, gd50, cl0, f0]
    by_cases c0 : Z.2.2 0 = 0
    · rw [if_pos (show nI (Z.2.2 0) = 0 by rw [c0]; rfl)]
      exact s_64 hn h (t := 0) ha hb hd (fun q => absurd q (by omega)) (fun q => absurd q (by omega)) (by omega)
    · rw [if_neg (by rw [nIz (by omega)]; exact c0), gd51, cl_1, f1]
      by_cases c1 : Z.2.2 1 = 0
      · rw [if_pos (show nI (Z.2.2 1) = 0 by rw [c1]; rfl)]
        exact s_64 hn h (t := 1) ha hb hd (fun q => absurd q (by omega)) (fun q => absurd q (by omega)) (by omega)
      · rw [if_neg (by rw [nIz (by omega)]; exact c1), u_e26 hw]
        exact s_64 hn h ha hb hd (fun _ => hp (by omega)) (fun _ => hi (by omega)) (by omega)
  have e15 : ∀ p, (0 < Z.2.2 0 → p < Z.2.2 0) → GO n (fL_step_15 (nI w) (nI a) (nI b) (nI p) Z F) := fun p hp => by
    unfold fL_step_15
    rw [gd51, cl_1, f1]
    by_cases c1 : Z.2.2 1 = 0
    · rw [if_pos (show nI (Z.2.2 1) = 0 by rw [c1]; rfl)]
      exact e33 p 0 hp (fun q => q)
    · rw [if_neg (by rw [nIz (by omega)]; exact c1), gd51, gnzn (by omega) (by omega), u_en hb (by omega) (by omega)]
      exact e33 p _ hp (fun q => Nat.mod_lt _ q)
  unfold fL_step
  rw [gd50, cl0, f0]
  by_cases c0 : Z.2.2 0 = 0
  · rw [if_pos (show nI (Z.2.2 0) = 0 by rw [c0]; rfl)]
    exact e15 0 (fun q => q)
  · rw [if_neg (by rw [nIz (by omega)]; exact c0), gd50, gnzn (by omega) (by omega), u_en ha (by omega) (by omega)]
    exact e15 _ (fun q => Nat.mod_lt _ q)
end PL5
