/-! PURE PART. The law's steps: pan, player, heat, join, leave, give, takeBack, note, tell, pass. -/
section PL0
variable {n : Nat} {Z : CZ} {F : Nat → Int32}
theorem r20 {k : Nat} (h : k < 41) : ¬ (nI k - 20 : Int32) < -60 ∧ ¬ (60 : Int32) < nI k - 20 := by
  have : ∀ k, k < 41 → ¬ (nI k - 20 : Int32) < -60 ∧ ¬ (60 : Int32) < nI k - 20 := by decide +kernel
  exact this k h
theorem p_pan (h : INV n Z F) {a b : Nat} (ha : a < 2147483648) (hb : b < 2147483648) : GO n (fL_step_180 (nI a) (nI b) Z F) := by
  obtain ⟨M, S, C, E, P, h, hf, hx⟩ := h
  have hnp := h.np.1
  obtain ⟨f0, f1, f2, f4⟩ := id hf
  unfold GO fL_step_180
  rw [u_d41 ha, u_d41 hb, u_e41 ha, u_e41 (by omega), u_e41 hb, u_e41 (by omega)]
  by_cases hc : Z.2.2 0 = 6
  · refine ⟨Z, upd F 0 (F 0 + 0), ?_, INV.of hf hx (k := 0) h (by omega) (by rw [pk_us, f0, hc]; rfl) (by rw [pk_un (by omega)]; exact f1) ⟨pk_un (by omega), pk_un (by omega)⟩ rfl rfl rfl rfl⟩
    unfold fL_pans
    rw [k_pan_no h (r20 (by omega)) (r20 (by omega)) (r20 (by omega)) (r20 (by omega)) hc, wx_r, cl2_s, gd50, if_neg (by decide), cl0]
    unfold fL_step_236
    rw [gd50, cl0, bnd_e, if_pos rfl, gd50, pk_us, f0, hc, if_pos (by decide)]
    rfl
  · obtain ⟨Z', M', h', c0, c1, mk, m4, m43, e⟩ := k_pan h (r20 (Nat.mod_lt a (by omega))) (r20 (Nat.mod_lt (a / 41) (by omega))) (r20 (Nat.mod_lt b (by omega))) (r20 (Nat.mod_lt (b / 41) (by omega))) hc
    refine ⟨Z', upd F 0 (F 0 + 1), ?_, INV.of hf hx (k := 0) h' (by omega) (by rw [pk_us, f0, c0, u_a1]) (by rw [pk_un (by omega), c1]; exact f1) ⟨pk_un (by omega), pk_un (by omega)⟩ (mk 1 (by omega) (by omega) (by omega)) (mk 2 (by omega) (by omega) (by omega)) (mk 21 (by omega) (by omega) (by omega)) (mk 24 (by omega) (by omega) (by omega))⟩
    unfold fL_pans
    rw [e, wx_l, cl2_s, gd50, if_pos (ge_0 (by omega)), cl0]
    unfold fL_step_236
    have q0 : fX6_field_n (nI (Z.2.2 0)) (0 : Int32) 0 Z' = some (nI (a % 41) - 20) := by
      rw [← m4]
      exact q_field0 h' (i := Z.2.2 0) (f := 0) (by omega) (by omega)
    have q3 : fX6_field_n (nI (Z.2.2 0)) (3 : Int32) 1 Z' = some ((nI (b / 41 % 41) - 20) - M 2 0) := by
      rw [← m43, ← mk 2 (by omega) (by omega) (by omega)]
      exact q_field1 h' (i := Z.2.2 0) (f := 3) (by omega) (by omega)
    rw [gd50, cl0, bnd_e, if_neg (ne_m200 (by omega)), gd50, pk_us, f0, u_a1, nI_pred, if_pos rfl, q0, cl1_s, u_e41 ha, if_pos rfl, q3, cl1_s, gd54, cl_4, pk_un (by omega), f4, u_d41 hb, u_e41 (by omega), if_pos rfl]
    rfl
theorem p_player (h : INV n Z F) {b : Nat} (hb : b < 2147483648) : GO n (fL_step_322 (nI b) Z F) := by
  obtain ⟨M, S, C, E, P, h, hf, hx⟩ := h
  have hnl := h.nl.1
  obtain ⟨f0, f1, f2, f4⟩ := id hf
  unfold GO fL_step_322
  rw [u_e2 hb]
  by_cases hc : Z.2.2 1 = 16
  · refine ⟨Z, upd F 1 (F 1 + 0), ?_, INV.of hf hx (k := 0) h (by omega) (by rw [pk_un (by omega)]; exact f0) (by rw [pk_us, f1, hc]; rfl) ⟨pk_un (by omega), pk_un (by omega)⟩ rfl rfl rfl rfl⟩
    unfold fL_acts6
    rw [k_player_no h (by omega) hc, wx_r, cl2_s, gd51, if_neg (by decide), cl_1]
    unfold fL_step_349
    rw [gd51, cl_1, bnd_e, if_pos rfl, gd51, pk_us, f1, hc, if_pos (by decide)]
    rfl
  · obtain ⟨Z', M', h', c0, c1, mk, m12, e⟩ := k_player h (v := b % 2) (by omega) hc
    refine ⟨Z', upd F 1 (F 1 + 1), ?_, INV.of hf hx (k := 0) h' (by omega) (by rw [pk_un (by omega), c0]; exact f0) (by rw [pk_us, f1, c1, u_a1]) ⟨pk_un (by omega), pk_un (by omega)⟩ (mk 1 (by omega) (by omega) (by omega) (by omega) (by omega) (by omega)) (mk 2 (by omega) (by omega) (by omega) (by omega) (by omega) (by omega)) (mk 21 (by omega) (by omega) (by omega) (by omega) (by omega) (by omega)) (mk 24 (by omega) (by omega) (by omega) (by omega) (by omega) (by omega))⟩
    have z : ∀ b, b < 4 → uin S P b (Z.2.2 1) = 0 := fun b hb => uin_no (fun k hk => h.sp hb hk)
    have z2 : ucnt S P (Z.2.2 1) = 0 := by
      unfold ucnt
      rw [z 0 (by omega), z 1 (by omega), z 2 (by omega), z 3 (by omega)]
    unfold fL_acts6
    rw [e, wx_l, cl2_s, gd51, if_pos (ge_0 (by omega)), cl_1]
    unfold fL_step_349
    rw [gd51, cl_1, bnd_e, if_neg (ne_m200 (by omega)), gd51, pk_us, f1, u_a1, nI_pred, if_pos rfl, q_ofPlayer1 h' (by omega), cl1_s, z2, if_pos (by decide), q_ofPlayer2 h' (by omega), cl1_s, m12, if_pos rfl]
    rfl
theorem p_heat (h : INV n Z F) {b p : Nat} (hb : b < 2147483648) (hp : p < Z.2.2 0) : GO n (fL_step_446 (nI b) (nI p) Z F) := by
  obtain ⟨M, S, C, E, P, h, hf, hx⟩ := h
  obtain ⟨f0, f1, f2, f4⟩ := id hf
  obtain ⟨Z', h', e2, e⟩ := k_heat h (k := b % 16) (by omega)
  unfold GO fL_step_446
  refine ⟨Z', upd F 4 (nI (b % 16)), ?_, ⟨_, S, C, E, P, h'.ups 6, ⟨by rw [pk_un (by omega), e2]; exact f0, by rw [pk_un (by omega), e2]; exact f1, by rw [pk_un (by omega)]; exact f2, pk_us⟩, hx⟩⟩
  rw [u_e16 hb, nb_heat _ _ _ _ e, cl2_s, gd54, cl_4, f4, if_pos rfl]
  unfold fL_step_470
  have q0 : fX6_field_n (nI p) (0 : Int32) 0 Z' = some (M 4 (4 * p + 0)) := q_field0 h' (f := 0) (by rw [e2]; exact hp) (by omega)
  have q1 : fX6_field_n (nI p) (0 : Int32) 1 Z' = some (M 4 (4 * p + 0) - nI (b % 16)) := q_field1 h' (f := 0) (by rw [e2]; exact hp) (by omega)
  rw [gd54, cl_4, u_e16 hb, bnd_e, if_neg (by decide), q1, cl1_s, q0, cl1_s, gd54, pk_us, if_pos rfl]
  rfl
theorem p_join (h : INV n Z F) {i b : Nat} (hi : i < Z.2.2 1) (hb : b < 4) : GO n (fL_step_543 (nI i) (nI b) Z F) := by
  obtain ⟨M, S, C, E, P, h, hf, hx⟩ := h
  have hnl := h.nl.1
  have f8 := (h.2.2.2.2.2.2.2.1 i hi).2
  unfold GO fL_step_543
  rw [q_ofPlayer1 h hi, cl1_s]
  unfold fL_acts0
  rcases k_join h hi hb with e | ⟨hu, Z', M', S', E', P', h', c0, c1, mk, s1, p1, u1, e⟩
  · refine ⟨Z, F, ?_, INV.eq hf hx (k := 0) h (by omega) rfl rfl rfl rfl rfl rfl⟩
    rw [e, wx_r, cl2_s, if_pos rfl, q_ofPlayer1 h hi, cl1_s, if_pos rfl]
    rfl
  · refine ⟨Z', F, ?_, INV.eq hf hx (k := 0) h' (by omega) c0 c1 (mk 1 (by omega) (by omega) (by omega) (by omega)) (mk 2 (by omega) (by omega) (by omega) (by omega)) (mk 21 (by omega) (by omega) (by omega) (by omega)) (mk 24 (by omega) (by omega) (by omega) (by omega))⟩
    have hS := (h.nS hb).1
    have hi' : i < Z'.2.2 1 := by rw [c1]; exact hi
    have hk : S b < S' b := by omega
    rw [e, wx_l, cl2_s, if_neg (ne_m200 (by omega)), if_neg (show ¬ ((2 : Int32) ≤ nI (ucnt S P i)) from nI_ge (b := 2) hu (by omega)), q_ofPlayer1 h' hi', cl1_s, u1, u_a1, if_pos rfl, q_ofBand0 h' hb, cl1_s, s1, nI_pred, if_pos rfl, q_seat h' hb hk, cl1_s, p1, if_pos rfl, k_join_in h' hi' hb hk p1, wx_r, cl2_s, if_pos rfl]
    rfl
theorem p_leave (h : INV n Z F) {i b : Nat} (hi : i < Z.2.2 1) (hb : b < 4) : GO n (fL_step_659 (nI i) (nI b) Z F) := by
  obtain ⟨M, S, C, E, P, h, hf, hx⟩ := h
  have hnl := h.nl.1
  have hS := (h.nS hb).1
  have go : ∀ t0 : Int32, (∀ k, k < S b → t0 = nI (P b (S b - 1))) → GO n (fL_step_687 (nI i) (nI b) (nI (S b)) t0 Z F) := fun t0 ht => by
    unfold GO fL_step_687 fL_acts1
    rcases uin_or S P b i with ⟨_, k, hk, e⟩ | ⟨_, e⟩
    · obtain ⟨Z', M', S', E', P', h', c, mk, s1, p1, e2⟩ := k_leave h hi hb hk e
      have hi' : i < Z'.2.2 1 := by rw [c]; exact hi
      have hinj := h.2.2.2.2.2.2.1.2.2.1
      refine ⟨Z', F, ?_, INV.eq hf hx (k := 0) h' (by omega) (by rw [c]) (by rw [c]) (mk 1 (by omega) (by omega) (by omega) (by omega) (by omega) (by omega)) (mk 2 (by omega) (by omega) (by omega) (by omega) (by omega) (by omega)) (mk 21 (by omega) (by omega) (by omega) (by omega) (by omega) (by omega)) (mk 24 (by omega) (by omega) (by omega) (by omega) (by omega) (by omega))⟩
      have no : ∀ j, j < S' b → P' b j ≠ i := fun j hj q => by
        rw [p1] at q
        rw [s1] at hj
        by_cases hkj : k ≤ j
        · rw [if_pos hkj] at q
          have := hinj b (j + 1) k hb (by omega) hk (q.trans e.symm)
          omega
        · rw [if_neg hkj] at q
          have := hinj b j k hb (by omega) hk (q.trans e.symm)
          omega
      have fin : fL_step_771 (nI i) (nI b) Z' F = some (1, Z', F) := by
        unfold fL_step_771 fL_acts1
        rw [k_leave_no h' hi' hb no, wx_r, cl2_s, if_pos rfl]
        rfl
      rw [e2, wx_l, cl2_s, if_neg (ne_m200 (by omega)), u_s1 (by omega), if_pos rfl, q_ofBand0 h' hb, cl1_s, s1, if_pos rfl, ht k hk]
      by_cases hl : P b (S b - 1) = i
      · rw [if_pos (by rw [hl])]
        exact fin
      · have hl2 : ¬ nI (P b (S b - 1)) = nI i := by
          rw [nIe (by have := h.sp hb (show S b - 1 < S b by omega); omega) (by omega)]
          exact hl
        have hk2 : k < S b - 1 := by
          rcases Nat.lt_or_ge k (S b - 1) with q | q
          · exact q
          · exact absurd (by rw [show S b - 1 = k by omega]; exact e) hl
        have p1' : P' b (S b - 1 - 1) = P b (S b - 1) := by rw [p1, if_pos (by omega), show S b - 1 - 1 + 1 = S b - 1 by omega]
        rw [if_neg hl2, u_s1 (by omega), q_seat h' hb (by omega), cl1_s, p1', if_pos rfl]
        exact fin
    · refine ⟨Z, F, ?_, INV.eq hf hx (k := 0) h (by omega) rfl rfl rfl rfl rfl rfl⟩
      rw [k_leave_no h hi hb e, wx_r, cl2_s, if_pos rfl, q_ofBand0 h hb, cl1_s, if_pos rfl]
      rfl
  unfold fL_step_659
  rw [q_ofBand0 h hb, cl1_s]
  by_cases h0 : S b = 0
  · rw [if_pos (by rw [h0]; rfl)]
    exact go _ (fun k hk => by omega)
  · rw [if_neg (by rw [nIz (by omega)]; exact h0), u_s1 (by omega), q_seat h hb (by omega), cl1_s]
    exact go _ (fun k hk => rfl)
theorem p_give (h : INV n Z F) {i q : Nat} (hi : i < Z.2.2 1) (hq : q < Z.2.2 0) : GO n (fL_step_792 (nI q) (nI i) Z F) := by
  obtain ⟨M, S, C, E, P, h, hf, hx⟩ := h
  have hnp := h.np.1
  unfold GO fL_step_792 fL_gives
  have no : ∀ r : Option (Int32 × CZ × (Nat → Int32)), fX6_give (nI i) (nI q) Z = some (.inr 3, Z) → ∃ Z' F', cl1 (fX6_ofPlayer_n (nI i) 2 Z) (fun v34 => cl2 (wv (fX6_give (nI i) (nI q) Z)) (fun v36 Z38 => if v36 = 0 then cl1 (fX6_ofPlayer_n (nI i) 2 Z38) (fun v39 => if v39 = v34 then fL_step_870 1 Z38 F else fL_step_870 0 Z38 F) else r)) = some (1, Z', F') ∧ INV (n + 6) Z' F' := fun r e => by
    refine ⟨Z, F, ?_, INV.eq hf hx (k := 0) h (by omega) rfl rfl rfl rfl rfl rfl⟩
    rw [q_ofPlayer2 h hi, cl1_s, e, wv_r, cl2_s, if_pos rfl, q_ofPlayer2 h hi, cl1_s, if_pos rfl]
    rfl
  have eno : fX6_give (nI i) (nI q) Z = some (.inr 3, Z) → ∃ Z' F', cl1 (fX6_ofPlayer_n (nI i) 2 Z) (fun v34 => cl2 (wv (fX6_give (nI i) (nI q) Z)) (fun v36 Z38 => if v36 = 0 then cl1 (fX6_ofPlayer_n (nI i) 2 Z38) (fun v39 => if v39 = v34 then fL_step_870 1 Z38 F else fL_step_870 0 Z38 F) else if v34 = -1 then cl1 (fX6_ofPlayer_n (nI i) 2 Z38) (fun v41 => if v41 = nI q then cl2 (wv (fX6_give (nI i) (nI q) Z38)) (fun v43 Z45 => if v43 = 0 then fL_step_870 1 Z45 F else fL_step_849 Z45 F) else fL_step_849 Z38 F) else fL_step_849 Z38 F)) = some (1, Z', F') ∧ INV (n + 6) Z' F' := fun e => by
    refine ⟨Z, F, ?_, INV.eq hf hx (k := 0) h (by omega) rfl rfl rfl rfl rfl rfl⟩
    rw [q_ofPlayer2 h hi, cl1_s, e, wv_r, cl2_s, if_pos rfl, q_ofPlayer2 h hi, cl1_s, if_pos rfl]
    rfl
  rcases h.m12 hi with ⟨m12, hq1⟩ | ⟨q1, hq1, m12, hq2⟩
  · rcases k_give h hi hq hq1 with e | ⟨Z', h', c, z9, e⟩
    · exact eno e
    · have hi' : i < Z'.2.2 1 := by rw [c]; exact hi
      have hq' : q < Z'.2.2 0 := by rw [c]; exact hq
      refine ⟨Z', F, ?_, INV.eq hf hx (k := 0) h' (by omega) (by rw [c]) (by rw [c]) rfl rfl rfl rfl⟩
      rw [q_ofPlayer2 h hi, cl1_s, e, wv_l, cl2_s, if_neg (by decide), m12, if_pos rfl, q_ofPlayer2 h' hi', cl1_s]
      show (if upd (M 12) i (nI q) i = nI q then _ else _) = _
      rw [pk_us, if_pos rfl, k_give_no h' hi' hq' (by rw [z9]; exact fun z => by cases z), wv_r, cl2_s, if_pos rfl]
      rfl
  · exact eno (k_give_no h hi hq (by rw [hq2]; exact fun z => by cases z))
theorem p_take (h : INV n Z F) {i : Nat} (hi : i < Z.2.2 1) : GO n (fL_step_871 (nI i) Z F) := by
  obtain ⟨M, S, C, E, P, h, hf, hx⟩ := h
  have hnp := h.np.1
  unfold GO fL_step_871 fL_acts2
  rw [q_ofPlayer2 h hi, cl1_s]
  rcases h.m12 hi with ⟨m12, hq1⟩ | ⟨q1, hq1, m12, hq2⟩
  · refine ⟨Z, F, ?_, INV.eq hf hx (k := 0) h (by omega) rfl rfl rfl rfl rfl rfl⟩
    rw [k_takeBack_no h hi hq1, wx_r, cl2_s, if_pos rfl, m12, if_pos rfl]
    rfl
  · obtain ⟨Z', h', c, e⟩ := k_takeBack h hi hq2
    have hi' : i < Z'.2.2 1 := by rw [c]; exact hi
    refine ⟨Z', F, ?_, INV.eq hf hx (k := 0) h' (by omega) (by rw [c]) (by rw [c]) rfl rfl rfl rfl⟩
    rw [e, wx_l, cl2_s, if_neg (ne_m200 (by omega)), m12, if_pos rfl, q_ofPlayer2 h' hi', cl1_s]
    show (if upd (M 12) i (-1) i = -1 then _ else _) = _
    rw [pk_us, if_pos rfl]
    rfl
theorem p_note (h : INV n Z F) {v b : Nat} (hv : v < 2147483648) (hb : b < 4) : GO n (fL_step_936 (nI v) (nI b) Z F) := by
  obtain ⟨M, S, C, E, P, h, hf, hx⟩ := h
  have hC := (h.nC hb).1
  unfold GO fL_step_936 fL_acts5
  rw [u_e12 hv]
  by_cases hc : C b = 24
  · refine ⟨Z, F, ?_, INV.eq hf hx (k := 0) h (by omega) rfl rfl rfl rfl rfl rfl⟩
    rw [k_note_no h hb (by omega) hc, wx_r, cl2_s, if_pos rfl, q_ofBand1 h hb, cl1_s, hc, if_pos (by decide)]
    rfl
  · obtain ⟨Z', h', c, e⟩ := k_note h hb (v := v % 12) (by omega) hc
    have s1 : va_up C b (C b + 1) b = C b + 1 := vu_s
    refine ⟨Z', F, ?_, INV.eq hf hx (k := 0) h' (by omega) (by rw [c]) (by rw [c]) rfl rfl rfl rfl⟩
    rw [e, wx_l, cl2_s, if_neg (ne_m200 (by omega)), q_ofBand1 h' hb, cl1_s, s1, if_pos rfl, q_ofBand2 h' hb, cl1_s, s1, u_d4 (by omega), if_pos rfl]
    rfl
theorem p_tell (h : INV n Z F) {v b : Nat} (hv : v < 2147483648) (hb : b < 4) : GO n (fL_step_1053 (nI v) (nI b) Z F) := by
  obtain ⟨M, S, C, E, P, h, hf, hx⟩ := h
  have hC := (h.nC hb).1
  have hS := (h.nS hb).1
  have no : (C b / 4 = 0 ∨ S b = 0) → GO n (fL_step_1081 (nI b) Z F) := fun hz => by
    unfold GO fL_step_1081
    obtain ⟨Z', h', e2, e⟩ := k_leaps h hb
    have hy : ¬ urdy M P (S b) b (C b / 4) (-1) := fun q => by
      rcases hz with hz | hz
      · have := q.1
        omega
      · exact q.2 0 q.1 (fun k hk => by omega)
    refine ⟨Z', F, ?_, INV.eq hf hx (k := 0) h' (by omega) (by rw [e2]) (by rw [e2]) rfl rfl rfl rfl⟩
    rw [nb_leaps _ _ _ _ (e.resolve_left (fun q => hy q.1)).2, cl2_s, if_pos rfl]
    rfl
  unfold fL_step_1053
  rw [q_ofBand2 h hb, cl1_s, q_ofBand0 h hb, cl1_s]
  by_cases hc : C b / 4 = 0
  · rw [if_pos (by rw [hc]; rfl)]
    exact no (Or.inl hc)
  · rw [if_neg (by rw [nIz (by omega)]; exact hc)]
    by_cases h0 : S b = 0
    · rw [if_pos (by rw [h0]; rfl)]
      exact no (Or.inr h0)
    · rw [if_neg (by rw [nIz (by omega)]; exact h0), gnzn (by omega) (by omega), gnzn (by omega) (by omega), u_d8 (by omega), u_en hv (by omega) (by omega), u_en (by omega) (by omega) (by omega)]
      have hk : v % S b < S b := Nat.mod_lt _ (by omega)
      have hj : v / 8 % (C b / 4) < C b / 4 := Nat.mod_lt _ (by omega)
      obtain ⟨Z', h', e2, e⟩ := k_tell h hb hk hj
      refine ⟨Z', F, ?_, INV.eq hf hx (k := 0) h' (by omega) (by rw [e2]) (by rw [e2]) rfl rfl rfl rfl⟩
      rw [nb_tell _ _ _ _ _ _ e, cl2_s]
      have fin : cl1 (fX6_knows_n (nI b) (nI (v % S b)) (nI (v / 8 % (C b / 4))) Z') (fun v53 => (if v53 = (1 : Int32) then fL_step_1157 (1 : Int32) Z' F else fL_step_1156 Z' F)) = some (1, Z', F) := by
        rw [q_knows h' hb hk hj, cl1_s]
        show (if upd (M 19) (6 * (8 * b + v % S b) + v / 8 % (C b / 4)) 1 (6 * (8 * b + v % S b) + v / 8 % (C b / 4)) = (1 : Int32) then _ else _) = _
        rw [pk_us, if_pos rfl]
        rfl
      rcases h.kn hb hk (show v / 8 % (C b / 4) < 6 by omega) with q | q | q
      · rw [q, if_neg (by decide), if_neg (by decide), gnzn (by omega) (by omega), gnzn (by omega) (by omega)]
        exact fin
      · rw [q, if_neg (by decide), if_neg (by decide), gnzn (by omega) (by omega), gnzn (by omega) (by omega)]
        exact fin
      · rw [q, if_neg (by decide), if_neg (by decide), gnzn (by omega) (by omega), gnzn (by omega) (by omega)]
        exact fin
theorem p_pass (h : INV n Z F) {a v b : Nat} (ha : a < 2147483648) (hv : v < 2147483648) (hb : b < 4) : GO n (fL_step_1193 (nI a) (nI v) (nI b) Z F) := by
  obtain ⟨M, S, C, E, P, h, hf, ⟨⟨t, ht, m1, hd⟩, ho⟩⟩ := h
  obtain ⟨f0, f1, f2, f4⟩ := id hf
  have go : ∀ k, 1 ≤ k → k ≤ 30 → t ≤ 900 → GO n (fL_step_1223 (nI b) (nI k) Z F) := fun k k1 k2 h9 => by
    obtain ⟨Z', h', e2, e⟩ := k_pass h k1 k2 m1 (by omega)
    unfold GO fL_step_1223
    refine ⟨Z', upd F 2 (F 2 + nI k), ?_, ⟨_, S, C, E, P, h'.ups 6, ⟨by rw [pk_un (by omega), e2]; exact f0, by rw [pk_un (by omega), e2]; exact f1, by rw [pk_us, f2, m1, nI_add]; rfl, by rw [pk_un (by omega)]; exact f4⟩, ⟨⟨t + k, by omega, rfl, fun b' hb' => ?_⟩, ho⟩⟩⟩
    · rw [gd52, gd52, cl_2, bnd_e, if_neg (by rw [nIz (by omega)]; omega), nb_pass _ _ _ _ e, cl2_s, gd52, pk_us, f2, m1, nI_add, if_pos rfl, q_ofBand4 h' hb, cl1_s]
      have ne : ¬ (va_up M 1 (fun _ => nI (t + k)) 21 b = va_up M 1 (fun _ => nI (t + k)) 1 0) := by
        show ¬ (M 21 b = nI (t + k))
        rcases hd b hb with q | ⟨u, u1, u2⟩
        · rw [q]
          exact fun z => ne_m1 (by omega) z.symm
        · rw [u2, nIe (by omega) (by omega)]
          omega
      rw [if_neg ne, if_pos rfl]
      rfl
    · rcases hd b' hb' with q | ⟨u, u1, u2⟩
      · exact Or.inl q
      · exact Or.inr ⟨u, by omega, u2⟩
  unfold fL_step_1193
  unfold GO
  rw [gd52, cl_2, f2, m1]
  by_cases h9 : t ≤ 900
  · rw [if_pos (show nI t ≤ (900 : Int32) from nI_le (b := 900) h9 (by omega))]
    unfold fL_step_1221
    rw [u_e30 hv, u_e2 hv, u_1a, u_1a]
    split
    · rw [gnz30]
      exact go _ (by omega) (by omega) h9
    · rw [gnz2]
      exact go _ (by omega) (by omega) h9
  · rw [if_neg (show ¬ (nI t ≤ (900 : Int32)) from nI_ge (a := 900) (by omega) (by omega))]
    refine ⟨Z, upd F 2 (F 2 + 0), ?_, ⟨M, S, C, E, P, h.ups 6, ⟨by rw [pk_un (by omega)]; exact f0, by rw [pk_un (by omega)]; exact f1, by rw [pk_us, f2, Int32.add_zero], by rw [pk_un (by omega)]; exact f4⟩, ⟨⟨t, ht, m1, hd⟩, ho⟩⟩⟩
    unfold fL_step_1223
    rw [gd52, gd52, cl_2, bnd_e, if_pos rfl]
    rfl
end PL0
