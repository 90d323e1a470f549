/-! PURE PART. The law's steps: what is performed, marked, parted, ranked. -/
section PL3
variable {n : Nat} {Z : CZ} {M : MT} {S C : Nat → Nat} {E P : Nat → Nat → Nat} {F : Nat → Int32}
theorem q_leaps (h : uRR n Z M S C E P) {b : Nat} (hb : b < 4) : ∃ Z', uRR n Z' M S C E P ∧ Z'.2 = Z.2 ∧ ((urdy M P (S b) b (C b / 4) (-1) ∧ fX6_leaps_n (nI b) Z = some (nI (uval M P (S b) b (C b / 4) (-1)), Z')) ∨ (¬ urdy M P (S b) b (C b / 4) (-1) ∧ fX6_leaps_n (nI b) Z = some (-1, Z'))) := by
  obtain ⟨Z', h', hz, ⟨a, e⟩ | ⟨a, e⟩⟩ := k_leaps h hb
  · exact ⟨Z', h', hz, Or.inl ⟨a, nb_leaps _ _ _ _ e⟩⟩
  · exact ⟨Z', h', hz, Or.inr ⟨a, nb_leaps _ _ _ _ e⟩⟩
theorem q_without (h : uRR n Z M S C E P) {b k : Nat} (hb : b < 4) (hk : k < S b) : ∃ Z', uRR n Z' M S C E P ∧ Z'.2 = Z.2 ∧ ((urdy M P (S b) b (C b / 4) (nI k) ∧ fX6_without_n (nI b) (nI k) Z = some (nI (uval M P (S b) b (C b / 4) (nI k)), Z')) ∨ (¬ urdy M P (S b) b (C b / 4) (nI k) ∧ fX6_without_n (nI b) (nI k) Z = some (-1, Z'))) := by
  obtain ⟨Z', h', hz, ⟨a, e⟩ | ⟨a, e⟩⟩ := k_without h hb hk
  · exact ⟨Z', h', hz, Or.inl ⟨a, nb_without _ _ _ _ _ e⟩⟩
  · exact ⟨Z', h', hz, Or.inr ⟨a, nb_without _ _ _ _ _ e⟩⟩
theorem q_part (h : uRR n Z M S C E P) {b q : Nat} (hb : b < 4) (hq : q < C b / 4) : ∃ Z', uRR n Z' M S C E P ∧ Z'.2 = Z.2 ∧ ((urdy M P (S b) b (C b / 4) (-1) ∧ fX6_part_n (nI b) (nI q) Z = some (nI (uch M P (S b) b (C b / 4) (-1) q), Z')) ∨ (¬ urdy M P (S b) b (C b / 4) (-1) ∧ fX6_part_n (nI b) (nI q) Z = some (-1, Z'))) := by
  obtain ⟨Z', h', hz, ⟨a, e⟩ | ⟨a, e⟩⟩ := k_part h hb hq
  · exact ⟨Z', h', hz, Or.inl ⟨a, nb_part _ _ _ _ _ e⟩⟩
  · exact ⟨Z', h', hz, Or.inr ⟨a, nb_part _ _ _ _ _ e⟩⟩
theorem q_ofPerf (h : uRR n Z M S C E P) {b k : Nat} (hb : b < 4) (k1 : 1 ≤ k) (k30 : k ≤ 30) (hn : n < 512) (h22 : M 22 b = 1) : ∃ Z', uRR n Z' M S C E P ∧ Z'.2 = Z.2 ∧ fL_acts4 (nI b) (nI k) Z = some (-200, Z') := by
  rcases k_perform hn h hb k1 k30 with ⟨_, Z', a, b, e⟩ | ⟨q, _⟩
  · exact ⟨Z', a, b, by unfold fL_acts4; rw [e]; rfl⟩
  · rw [h22] at q
    exact absurd q (by decide)
theorem u_mod10 {a u : Nat} (ha : a ≤ 144) (hu : u ≤ 8) : irm (nI (a + 10 * u) - nI a) (10 : Int32) = 0 := by
  rw [show nI (a + 10 * u) - nI a = nI (10 * u) from by
    have := pk_sub (a := a + 10 * u) (b := a) (by omega)
    rw [this, show a + 10 * u - a = 10 * u by omega], u_e10 (by omega), show 10 * u % 10 = 0 by omega]
  rfl
theorem p_performed (hn : n + 6 < 512) (h : uRR n Z M S C E P) {b k : Nat} (hb : b < 4) (k1 : 1 ≤ k) (k30 : k ≤ 30) : ∃ (Z' : CZ) (M' : MT), fL_hasPerformed (nI b) (nI k) Z = some (1, Z') ∧ uRR n Z' M' S C E P ∧ Z'.2 = Z.2 ∧ (∀ j, j ≠ 22 → j ≠ 23 → j ≠ 24 → M' j = M j) ∧ ∀ b', M' 24 b' = M 24 b' ∨ ∃ o, o ≤ 40 ∧ M' 24 b' = nI o := by
  obtain ⟨Z1, h1, z1, hl⟩ := q_leaps h hb
  obtain ⟨w, hw, hwr⟩ : ∃ w : Int32, fX6_leaps_n (nI b) Z = some (w, Z1) ∧ ((urdy M P (S b) b (C b / 4) (-1) ∧ w = nI (uval M P (S b) b (C b / 4) (-1))) ∨ (¬ urdy M P (S b) b (C b / 4) (-1) ∧ w = -1)) := by
    rcases hl with ⟨a, e⟩ | ⟨a, e⟩
    · exact ⟨_, e, Or.inl ⟨a, rfl⟩⟩
    · exact ⟨_, e, Or.inr ⟨a, rfl⟩⟩
  have ud := h.uhd hb
  rcases k_perform (by omega) h1 hb k1 k30 with ⟨hq, Z2, h2, z2, e⟩ | ⟨h22, hy, Z2, M', u, hu, h2, z2, mk, m22, m23, m24, e⟩
  · refine ⟨Z2, M, ?_, h2, z2.trans z1, fun _ _ _ _ => rfl, fun _ => Or.inl rfl⟩
    have e42 : fL_hasPerformed_42 (nI b) (uhd M b) Z2 = some (1, Z2) := by
      unfold fL_hasPerformed_42
      rw [q_ofBand3 h2 hb, cl1_s, if_pos rfl]
      rfl
    unfold fL_hasPerformed fL_acts4
    rw [q_ofBand3 h hb, cl1_s, hw, cl2_s, e, wx_r, cl2_s, if_pos rfl]
    by_cases c : uhd M b = -1
    · rw [if_pos c]
      have : w = -1 := by
        rcases hwr with ⟨a, _⟩ | ⟨_, e⟩
        · rcases hq with hq | hq
          · rcases ud with ⟨q, _⟩ | ⟨a9, a91, _, _, q, _⟩
            · rw [q] at hq
              exact absurd hq (by decide)
            · rw [q] at c
              exact absurd c (ne_m1 (by omega))
          · exact absurd a hq
        · exact e
      rw [if_pos this]
      exact e42
    · rw [if_neg c]
      exact e42
  · have hv := uval_le h hb hy
    obtain ⟨a, ha⟩ : ∃ a, a = uval M P (S b) b (C b / 4) (-1) := ⟨_, rfl⟩
    rw [← ha] at hv m23 e
    have ew : w = nI a := by
      rcases hwr with ⟨_, e⟩ | ⟨q, _⟩
      · rw [e, ha]
      · exact absurd hy q
    have ec : uhd M b = -1 := by
      rcases ud with ⟨_, _, q, _⟩ | ⟨_, _, q, _⟩
      · exact q
      · rw [q] at h22
        exact absurd h22 (by decide)
    have m22b : M' 22 b = 1 := by rw [m22, pk_us]
    have ec' : uhd M' b = nI (a + 10 * u) := by
      rcases h2.uhd hb with ⟨q, _⟩ | ⟨a9, _, _, _, q, r⟩
      · rw [q] at m22b
        exact absurd m22b (by decide)
      · rw [q, ← r, m23, pk_us]
    obtain ⟨Z3, h3, z3, e3⟩ := q_ofPerf h2 hb k1 k30 (by omega) m22b
    refine ⟨Z3, M', ?_, h3, z3.trans (z2.trans z1), mk, fun b' => ?_⟩
    · unfold fL_hasPerformed
      rw [q_ofBand3 h hb, cl1_s, hw, cl2_s]
      rw [show fL_acts4 (nI b) (nI k) Z1 = some (nI (a + 10 * u), Z2) from by unfold fL_acts4; rw [e]; rfl]
      rw [cl2_s, if_neg (ne_m200 (by omega)), if_pos ec, ew, if_neg (show ¬ nI (a + 10 * u) < nI a from by rw [nIlt (by omega) (by omega)]; omega), u_mod10 hv hu, if_pos rfl, q_ofBand3 h2 hb, cl1_s, if_pos ec', e3, cl2_s, if_pos rfl]
      rfl
    · rw [m24]
      by_cases eb : b' = b
      · rw [eb, pk_us]
        refine Or.inr ?_
        by_cases k10 : k ≤ 10
        · exact ⟨0, by omega, by rw [if_pos (show nI k ≤ (10 : Int32) from nI_le (b := 10) k10 (by omega))]; rfl⟩
        · refine ⟨2 * k - 20, by omega, ?_⟩
          rw [if_neg (show ¬ (nI k ≤ (10 : Int32)) from nI_ge (b := k) (a := 10) (by omega) (by omega)), show (2 : Int32) * nI k = nI (2 * k) from pk_mul 2 k, show nI (2 * k) - (20 : Int32) = nI (2 * k - 20) from pk_sub (a := 2 * k) (b := 20) (by omega)]
      · rw [pk_un eb]
        exact Or.inl rfl
theorem p_perf (hn : n + 6 < 512) (h : INV n Z F) {v b : Nat} (hv : v < 2147483648) (hb : b < 4) : GO n (fL_step_1266 (nI v) (nI b) Z F) := by
  obtain ⟨M, S, C, E, P, h, hf, hx⟩ := h
  obtain ⟨Z', M', e, h', hz, mk, m24⟩ := p_performed hn h hb (k := 1 + v % 30) (by omega) (by omega)
  have m1 := mk 1 (by omega) (by omega) (by omega)
  have m2 := mk 2 (by omega) (by omega) (by omega)
  have m21 := mk 21 (by omega) (by omega) (by omega)
  obtain ⟨ht, ho⟩ := hx
  refine ⟨Z', F, ?_, ⟨M', S, C, E, P, h'.ups 6, ⟨by rw [hz]; exact hf.1, by rw [hz]; exact hf.2.1, by rw [m1]; exact hf.2.2.1, by rw [m2]; exact hf.2.2.2⟩, ⟨by rw [m1, m21]; exact ht, fun b' hb' => ?_⟩⟩⟩
  · unfold fL_step_1266
    rw [u_e30 hv, u_1a, e, cl2_s]
    rfl
  · rcases m24 b' with q | q
    · rw [q]
      exact ho b' hb'
    · exact q
/-! marks -/
theorem sL_b {l v : Int32} (h1 : 0 ≤ l.toInt ∧ l.toInt ≤ 100) (h2 : 0 ≤ v.toInt ∧ v.toInt ≤ 100) : 0 ≤ (sL l v).toInt ∧ (sL l v).toInt ≤ 100 := by
  unfold sL
  split
  · exact h2
  · exact h1
theorem sM_b {l v : Int32} (h1 : 0 ≤ l.toInt ∧ l.toInt ≤ 100) (h2 : 0 ≤ v.toInt ∧ v.toInt ≤ 100) : 0 ≤ (sM l v).toInt ∧ (sM l v).toInt ≤ 100 := by
  unfold sM
  split
  · exact h2
  · exact h1
theorem usco_ge {v : Nat → Int32} {o : Int32} (h : ∀ j, j < 5 → 0 ≤ (v j).toInt ∧ (v j).toInt ≤ 100) (ho : 0 ≤ o.toInt ∧ o.toInt ≤ 40) : -1000 ≤ (usco v o).toInt := by
  have z0 : ((0 : Int32)).toInt = 0 := by decide
  have z1 : ((100 : Int32)).toInt = 100 := by decide
  have h0 := h 0 (by omega)
  have h1 := h 1 (by omega)
  have h2 := h 2 (by omega)
  have h3 := h 3 (by omega)
  have h4 := h 4 (by omega)
  obtain ⟨lo, hlo⟩ : ∃ lo, lo = sL (sL (sL (sL (sL 100 (v 0)) (v 1)) (v 2)) (v 3)) (v 4) := ⟨_, rfl⟩
  obtain ⟨hi, hhi⟩ : ∃ hi, hi = sM (sM (sM (sM (sM 0 (v 0)) (v 1)) (v 2)) (v 3)) (v 4) := ⟨_, rfl⟩
  have b1 : 0 ≤ lo.toInt ∧ lo.toInt ≤ 100 := by
    rw [hlo]
    exact sL_b (sL_b (sL_b (sL_b (sL_b (by omega) h0) h1) h2) h3) h4
  have b2 : 0 ≤ hi.toInt ∧ hi.toInt ≤ 100 := by
    rw [hhi]
    exact sM_b (sM_b (sM_b (sM_b (sM_b (by omega) h0) h1) h2) h3) h4
  unfold usco
  rw [← hlo, ← hhi]
  have s0 : ((0 : Int32) + v 0).toInt = (v 0).toInt := by rw [tI_add (by omega) (by omega), z0, Int.zero_add]
  have s1 : ((0 : Int32) + v 0 + v 1).toInt = (v 0).toInt + (v 1).toInt := by rw [tI_add (by omega) (by omega), s0]
  have s2 : ((0 : Int32) + v 0 + v 1 + v 2).toInt = (v 0).toInt + (v 1).toInt + (v 2).toInt := by rw [tI_add (by omega) (by omega), s1]
  have s3 : ((0 : Int32) + v 0 + v 1 + v 2 + v 3).toInt = (v 0).toInt + (v 1).toInt + (v 2).toInt + (v 3).toInt := by rw [tI_add (by omega) (by omega), s2]
  have s4 : ((0 : Int32) + v 0 + v 1 + v 2 + v 3 + v 4).toInt = (v 0).toInt + (v 1).toInt + (v 2).toInt + (v 3).toInt + (v 4).toInt := by rw [tI_add (by omega) (by omega), s3]
  have s5 : ((0 : Int32) + v 0 + v 1 + v 2 + v 3 + v 4 - lo).toInt = (v 0).toInt + (v 1).toInt + (v 2).toInt + (v 3).toInt + (v 4).toInt - lo.toInt := by rw [tI_sub (by omega) (by omega), s4]
  have s6 : ((0 : Int32) + v 0 + v 1 + v 2 + v 3 + v 4 - lo - hi).toInt = (v 0).toInt + (v 1).toInt + (v 2).toInt + (v 3).toInt + (v 4).toInt - lo.toInt - hi.toInt := by rw [tI_sub (by omega) (by omega), s5]
  rw [tI_sub (by omega) (by omega), s6]
  omega
theorem p_mark (hn : n + 6 < 512) (h : INV n Z F) {v b : Nat} (hv : v < 2147483648) (hb : b < 4) : GO n (fL_step_1280 (nI v) (nI b) Z F) := by
  obtain ⟨M, S, C, E, P, h, hf, hx⟩ := h
  unfold GO fL_step_1280
  rw [u_e5 hv, u_d5 hv, u_e101 (by omega)]
  have hk5 : v % 5 < 5 := by omega
  rcases k_mark h hb hk5 (show v / 5 % 101 ≤ 100 by omega) with ⟨_, e⟩ | ⟨h22, h26, Z', h', hz, e⟩
  · refine ⟨Z, F, ?_, INV.eq hf hx (k := 0) h (by omega) rfl rfl rfl rfl rfl rfl⟩
    rw [show fL_marks (nI b) (nI (v % 5)) (nI (v / 5 % 101)) Z = some (-200, Z) from by unfold fL_marks; rw [e]; rfl, cl2_s, if_pos rfl]
    rfl
  · obtain ⟨M', hM'⟩ : ∃ M' : MT, M' = va_up (va_up (va_up M 0 (fun _ => 0)) 26 (upd (M 26) (5 * b + v % 5) (nI (v / 5 % 101)))) 25 (upd (M 25) b (M 25 b + 1)) := ⟨_, rfl⟩
    rw [← hM'] at h'
    have mk : ∀ j, j ≠ 0 → j ≠ 26 → j ≠ 25 → M' j = M j := fun j j1 j2 j3 => by rw [hM', vu_n j3, vu_n j2, vu_n j1]
    have m22 := mk 22 (by omega) (by omega) (by omega)
    have m24 := mk 24 (by omega) (by omega) (by omega)
    have m26 : M' 26 (5 * b + v % 5) = nI (v / 5 % 101) := by rw [hM', vu_n (by omega), vu_s, pk_us]
    have m25 : M' 25 b = M 25 b + 1 := by rw [hM', vu_s, pk_us]
    obtain ⟨hm, h25⟩ := h.2.2.2.2.2.2.2.2.2.2.2 b hb
    obtain ⟨c, hc, hc4⟩ : ∃ c, M 25 b = nI c ∧ c ≤ 4 := by
      refine ⟨_, h25, ?_⟩
      have u0 := umk_le (M 26) b 0
      have u1 := umk_le (M 26) b 1
      have u2 := umk_le (M 26) b 2
      have u3 := umk_le (M 26) b 3
      have u4 := umk_le (M 26) b 4
      have uk : umk (M 26) b (v % 5) = 0 := if_pos h26
      have : v % 5 = 0 ∨ v % 5 = 1 ∨ v % 5 = 2 ∨ v % 5 = 3 ∨ v % 5 = 4 := by omega
      rcases this with q | q | q | q | q <;> rw [q] at uk <;> omega
    have et : M 25 b + 1 = nI (c + 1) := by rw [hc]; exact u_a1 c
    obtain ⟨hd, hd9, ehd⟩ : ∃ hd, hd < 1000 ∧ uhd M' b = nI hd := by
      rcases h'.uhd hb with ⟨q, _⟩ | ⟨a, a1, _, _, q, _⟩
      · rw [m22, h22] at q
        exact absurd q (by decide)
      · exact ⟨a, a1, q⟩
    have again : fL_marks (nI b) (nI (v % 5)) (7 : Int32) Z' = some (-200, Z') := by
      have : fX6_mark (nI b) (nI (v % 5)) (nI 7) Z' = some (.inr 3, Z') := by
        rcases k_mark h' hb hk5 (show 7 ≤ 100 by omega) with ⟨_, e⟩ | ⟨_, q, _⟩
        · exact e
        · rw [m26] at q
          exact absurd q (ne_m1 (by omega))
      unfold fL_marks
      rw [show (7 : Int32) = nI 7 from rfl, this]
      rfl
    refine ⟨Z', F, ?_, INV.eq hf hx (k := 0) h' (by omega) (by rw [hz]) (by rw [hz]) (mk 1 (by omega) (by omega) (by omega)) (mk 2 (by omega) (by omega) (by omega)) (mk 21 (by omega) (by omega) (by omega)) m24⟩
    have e1358 : ∀ t : Int32, (t = if c + 1 = 5 then 1 else 0) → fL_step_1358 (nI b) t Z' F = some (1, Z', F) := fun t ht => by
      unfold fL_step_1358 fL_scores
      by_cases q : c + 1 = 5
      · rw [if_pos q] at ht
        have r5 : M' 25 b = 5 := by rw [m25, et, q]; rfl
        have sc : -1000 ≤ (uS M' b).toInt := by
          refine usco_ge (fun j hj => ?_) ?_
          · have all : ∀ j, j < 5 → M' 26 (5 * b + j) ≠ -1 := fun j hj q9 => by
              have g25 := (h'.2.2.2.2.2.2.2.2.2.2.2 b hb).2
              rw [m25, et, q] at g25
              have u0 := umk_le (M' 26) b 0
              have u1 := umk_le (M' 26) b 1
              have u2 := umk_le (M' 26) b 2
              have u3 := umk_le (M' 26) b 3
              have u4 := umk_le (M' 26) b 4
              have uk : umk (M' 26) b j = 0 := if_pos q9
              have g := (nI_eq (by omega) (by omega)).mp g25
              have : j = 0 ∨ j = 1 ∨ j = 2 ∨ j = 3 ∨ j = 4 := by omega
              rcases this with r | r | r | r | r <;> rw [r] at uk <;> omega
            rcases ((h'.2.2.2.2.2.2.2.2.2.2.2 b hb).1 j hj).2 with w | ⟨w, w1, w2⟩
            · exact absurd w (all j hj)
            · show 0 ≤ (M' 26 (5 * b + j)).toInt ∧ (M' 26 (5 * b + j)).toInt ≤ 100
              rw [w2, nIi (by omega)]
              omega
          · obtain ⟨o, o1, o2⟩ := hx.2 b hb
            rw [m24, o2, nIi (by omega)]
            omega
        rcases k_score h' hb with ⟨_, e⟩ | ⟨w, _⟩
        · rw [e, wr_l, cl1_s, if_neg (show ¬ (uS M' b ≤ (-2000 : Int32)) from fun z => by
            rw [i_le, show ((-2000 : Int32)).toInt = -2000 from by decide] at z
            omega), ht]
          rfl
        · exact absurd r5 w
      · rw [if_neg q] at ht
        have r5 : ¬ M' 25 b = 5 := fun w => by
          rw [m25, et] at w
          exact q ((nI_eq (b := 5) (by omega) (by omega)).mp w)
        rcases k_score h' hb with ⟨w, _⟩ | ⟨_, e⟩
        · exact absurd w r5
        · rw [e, wr_r, cl1_s, if_pos (by decide), ht]
          rfl
    rw [show fL_marks (nI b) (nI (v % 5)) (nI (v / 5 % 101)) Z = some (nI (c + 1), Z') from by unfold fL_marks; rw [e, et]; rfl, cl2_s, if_neg (ne_m200 (by omega)), if_neg (show ¬ (nI (c + 1) ≤ (0 : Int32)) from nI_nle (by omega) (by omega)), if_neg (show ¬ ((6 : Int32) ≤ nI (c + 1)) from nI_ge (b := 6) (by omega) (by omega)), q_ofBand3 h' hb, cl1_s, ehd, if_neg (nI_pos (by omega)), again, cl2_s, if_pos rfl]
    by_cases q : c + 1 = 5
    · rw [if_pos (by rw [q]; rfl)]
      exact e1358 1 (by rw [if_pos q])
    · rw [if_neg (show ¬ nI (c + 1) = (5 : Int32) from fun w => q ((nI_eq (b := 5) (by omega) (by omega)).mp w))]
      exact e1358 0 (by rw [if_neg q])
end PL3
