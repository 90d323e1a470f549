/-! PURE PART. leave; pan. -/
section URV
variable {n : Nat} {Z : CZ} {M : MT} {S C : Nat → Nat} {E P : Nat → Nat → Nat}
theorem uL.rem {c3 c3' : Nat → Int32} {q4 : Nat → Option Nat} {cap k i : Nat} {e : Nat → Nat} (h : uL c3 q4 cap k e) (hi : i < k) (h3 : c3' 2 = nI (k - 1)) : uL c3' (fRem q4 k i) cap (k - 1) (fun j => if j < i then e j else e (j + 1)) := by
  obtain ⟨h1, h2, h4, h5⟩ := h
  refine ⟨h3, by omega, fun j hj => ?_, fun j hj => ?_⟩
  · unfold fRem
    rw [vu_n (by omega)]
    by_cases hik : i < k - 1
    · rw [if_pos hik]
      show va_cpy q4 q4 (i + 1) i (k - 1 - i) j = some (if j < i then e j else e (j + 1))
      by_cases hji : j < i
      · rw [pk_cpy_out (by omega), if_pos hji]
        exact h4 j (by omega)
      · rw [pk_cpy_in (by omega) (by omega), if_neg hji, show i + 1 + (j - i) = j + 1 by omega]
        exact h4 (j + 1) (by omega)
    · rw [if_neg hik]
      show q4 j = some (if j < i then e j else e (j + 1))
      rw [if_pos (by omega)]
      exact h4 j (by omega)
  · unfold fRem
    by_cases hjk : j = k - 1
    · rw [hjk, vu_s]
    · rw [vu_n hjk]
      split
      · rw [pk_cpy_out (by omega)]
        exact h5 j (by omega)
      · exact h5 j (by omega)
/-- one row moved one lower: the model's inner loop -/
theorem m_lv_in {K : Int32 → Int32 → Int32 → MT → Option (Int32 × MT)} {x1 x2 : Int32} {y : Nat} (hy : y < 31) : ∀ (d j fuel : Nat) (M' : MT), j + d = 6 → d < fuel → ∃ M'' : MT, lf5 (fX7_leave_119 K) fuel x1 x2 (nI y) (nI j) M' = K x1 x2 (nI (y + 1)) M'' ∧ (∀ k, k ≠ 19 → M'' k = M' k) ∧ (∀ i, M'' 19 i = if 6 * y + j ≤ i ∧ i < 6 * y + 6 then M' 19 (i + 6) else M' 19 i)
  | _, _, 0, _, _, hf => absurd hf (by omega)
  | 0, j, fuel + 1, M', hj, _ => by
    refine ⟨M', ?_, fun _ _ => rfl, fun i => by rw [if_neg (by omega)]⟩
    rw [lf5_s]
    unfold fX7_leave_119
    rw [show j = 6 by omega, if_pos (by decide)]
    unfold fX7_leave_161
    rw [bnd_e, u_a1]
  | d + 1, j, fuel + 1, M', hj, hf => by
    obtain ⟨M'', z1, z2, z3⟩ := m_lv_in (K := K) (x1 := x1) (x2 := x2) hy d (j + 1) fuel (va_up M' 19 (upd (M' 19) (6 * y + j) (M' 19 (6 * y + 6 + j)))) (by omega) (by omega)
    refine ⟨M'', ?_, fun k hk => by rw [z2 k hk, vu_n hk], fun i => ?_⟩
    · rw [lf5_s]
      unfold fX7_leave_119
      rw [if_neg (show ¬ ((6 : Int32) ≤ nI j) from nI_ge (b := 6) (by omega) (by omega)), u_l6, u_a6, nI_add, nI_add, gdn (by omega) (by omega), gdn (by omega) (by omega), nIc (by omega), nIc (by omega), bnd_e, bnd_e, u_a1]
      exact z1
    · rw [z3 i, vu_s]
      by_cases h1 : i = 6 * y + j
      · rw [if_neg (by omega), if_pos (by omega), h1, pk_us, show 6 * y + 6 + j = 6 * y + j + 6 by omega]
      · by_cases h2 : 6 * y + (j + 1) ≤ i ∧ i < 6 * y + 6
        · rw [if_pos h2, if_pos (by omega), pk_un (by omega)]
        · rw [if_neg h2, if_neg (by omega), pk_un h1]
/-- the seats behind come one lower: the model's outer loop (s seats are left) -/
theorem m_lv {x1 : Int32} {b k s : Nat} (hb : b < 4) (hs : s < 8) (hk : k ≤ s) : ∀ (d x fuel : Nat) (M' : MT), x + d = s → k ≤ x → d < fuel → M' 15 b = nI s → ∃ M'' : MT, lf4 fX7_leave_84 fuel x1 (nI b) (nI (8 * b + x)) M' = fX7_leave_167 x1 (nI b) M'' ∧ (∀ k, k ≠ 16 → k ≠ 19 → M'' k = M' k) ∧ (∀ i, M'' 16 i = if 8 * b + x ≤ i ∧ i < 8 * b + s then M' 16 (i + 1) else M' 16 i) ∧ (∀ i, M'' 19 i = if 6 * (8 * b + x) ≤ i ∧ i < 6 * (8 * b + s) then M' 19 (i + 6) else M' 19 i)
  | _, _, 0, _, _, _, hf, _ => absurd hf (by omega)
  | 0, x, fuel + 1, M', hx, _, _, h15 => by
    refine ⟨M', ?_, fun _ _ _ => rfl, fun i => by rw [if_neg (by omega)], fun i => by rw [if_neg (by omega)]⟩
    rw [lf4_s]
    unfold fX7_leave_84
    rw [gdn hb (by omega), nIc (by omega), h15, u_l8, nI_add, if_pos (nI_le (by omega) (by omega))]
  | d + 1, x, fuel + 1, M', hx, hkx, hf, h15 => by
    obtain ⟨Mi, i1, i2, i3⟩ := m_lv_in (K := lf4 fX7_leave_84 fuel) (x1 := x1) (x2 := nI b) (y := 8 * b + x) (by omega) 6 0 100 (va_up M' 16 (upd (M' 16) (8 * b + x) (M' 16 (8 * b + x + 1)))) (by omega) (by omega)
    obtain ⟨M'', z1, z2, z3, z4⟩ := m_lv (x1 := x1) hb hs hk d (x + 1) fuel Mi (by omega) (by omega) (by omega) (by rw [i2 15 (by omega)]; exact h15)
    refine ⟨M'', ?_, fun k k1 k2 => by rw [z2 k k1 k2, i2 k k2, vu_n k1], fun i => ?_, fun i => ?_⟩
    · rw [lf4_s]
      unfold fX7_leave_84
      rw [gdn hb (by omega), nIc (by omega), h15, u_l8, nI_add, if_neg (nI_ge (by omega) (by omega)), u_a1, gdn (by omega) (by omega), gdn (by omega) (by omega), nIc (by omega), nIc (by omega), bnd_e]
      rw [show 8 * b + x + 1 = 8 * b + (x + 1) by omega] at i1
      rw [← z1]
      exact i1
    · rw [z3 i, i2 16 (by omega), vu_s]
      by_cases h1 : i = 8 * b + x
      · rw [if_neg (by omega), if_pos (by omega), h1, pk_us]
      · by_cases h2 : 8 * b + (x + 1) ≤ i ∧ i < 8 * b + s
        · rw [if_pos h2, if_pos (by omega), pk_un (by omega)]
        · rw [if_neg h2, if_neg (by omega), pk_un h1]
    · rw [z4 i, i3 i, i3 (i + 6), vu_n (by omega)]
      by_cases h2 : 6 * (8 * b + (x + 1)) ≤ i ∧ i < 6 * (8 * b + s)
      · rw [if_pos h2, if_neg (by omega), if_pos (by omega)]
      · rw [if_neg h2]
        by_cases h3 : 6 * (8 * b + x) + 0 ≤ i ∧ i < 6 * (8 * b + x) + 6
        · rw [if_pos h3, if_pos (by omega)]
        · rw [if_neg h3, if_neg (by omega)]
theorem ok_leave : st_leave (uR n) (uR (n + 1)) := by
  rintro Z M ⟨S, C, E, P, h⟩ a1 a2
  have hnl := h.nl.1
  rcases uIx_or a1 (n := Z.2.2 1) (by omega) with ⟨i, hi, rfl⟩ | hf
  · rcases uIx_or a2 (n := 4) (by omega) with ⟨b, hb, rfl⟩ | hf
    · have hS := h.nS hb
      have f8 := h.2.2.2.2.2.2.2.1 i hi
      have ec : ∀ v r, fX0_seatOf b i Z = some v → (if v < 0 then fX6_leave_43 (nI b) i b v Z else (if nI (S b) ≤ v then fX6_leave_43 (nI b) i b v Z else fX6_leave_44 (nI b) i b v 1 Z)) = r → fX6_leave (nI i) (nI b) Z = r := fun v r hv hr => by
        unfold fX6_leave
        rw [h.playerAt hi, cx1_l, h.bandAt hb, cx1_l, cLv10 hb, gdt, hv, cl1_s, cLv3 (by omega), gdt, (h.ls4 hb).size (by omega), cl1_s]
        exact hr
      have em : ∀ v r, fX7_seatOf (nI i) (nI b) M = some v → fX7_leave_35 (nI i) (nI b) 1 v M = r → fX7_leave (nI i) (nI b) M = r := fun v r hv hr => by
        unfold fX7_leave
        rw [h.isPlayer hi, cl1_s, if_neg (by decide), m_isBand hb, cl1_s, if_neg (by decide)]
        unfold fX7_leave_20
        rw [if_neg (by decide), hv, cl1_s]
        exact hr
      rcases uin_or S P b i with ⟨u1, k, hk, e⟩ | ⟨u1, e⟩
      · have hR := h.crl
        have hls := h.ls4 hb
        have hcap := hls.2.1
        have n4 : cLv Z.2.2 4 (b + 4) = true := by
          show (decide (b + 4 < 8) && decide (0 < Z.2.2 (10 + (b + 4)))) = true
          rw [decide_eq_true (show b + 4 < 8 by omega), decide_eq_true (show 0 < Z.2.2 (10 + (b + 4)) by omega)]
          rfl
        have hsz : (Z.1 3 (b + 4) 2).toNatClampNeg = S b := by
          rw [hls.1]
          exact nIc (by omega)
        have hrem : fJx4a65c_remove_915e3 (b + 4) (nI k) Z = some (E b k, cuR (cuI Z 3 (b + 4) (upd (upd (Z.1 3 (b + 4)) 0 (Z.1 3 (b + 4) 0 + 1)) 2 (nI (S b - 1)))) 4 (b + 4) (fRem (Z.2.1 4 (b + 4)) (S b) k)) := by
          unfold fJx4a65c_remove_915e3 fJx4a65c_fastRemove_b59b0
          rw [cLv3 (by omega), gdt, hls.1, c_ci hk (by omega) Z, cl1_s, n4, gdt, gdn (by omega) (by omega), nIc (by omega), hls.2.2.1 k hk, cl1_s]
          rw [gp_t ⟨rfl, rfl, by rw [nIc (by omega)], rfl, by rw [nIc (by omega)]; exact hk, by rw [nIc (by omega)]; omega, by omega, fun j q hq => hR.1 (b + 4) j q (by omega) hq⟩, cl1_s, nIc (by omega)]
        obtain ⟨Mz, z1, z2, z3, z4⟩ := m_lv (x1 := nI i) (b := b) (k := k) (s := S b - 1) hb (by omega) (by omega) (S b - 1 - k) k 100 (va_up (va_up M 0 (fun _ => 0)) 15 (upd (M 15) b (nI (S b - 1)))) (by omega) (by omega) (by omega) (by rw [vu_s, pk_us])
        have eMz := up_eq2 z2
        have H : uRR n (cuI (cuI (cuI (cuR (cuI Z 3 (b + 4) (upd (upd (Z.1 3 (b + 4)) 0 (Z.1 3 (b + 4) 0 + 1)) 2 (nI (S b - 1)))) 4 (b + 4) (fRem (Z.2.1 4 (b + 4)) (S b) k)) 9 i (upd (Z.1 9 i) 3 (nI (ucnt S P i - 1)))) 9 i (upd (upd (Z.1 9 i) 3 (nI (ucnt S P i - 1))) 4 (nI b))) 9 i (upd (upd (upd (Z.1 9 i) 3 (nI (ucnt S P i - 1))) 4 (nI b)) 5 (M 1 0 / 30))) (va_up (va_up (va_up (va_up (va_up (va_up M 0 (fun _ => 0)) 15 (upd (M 15) b (nI (S b - 1)))) 16 (Mz 16)) 19 (Mz 19)) 13 (upd (M 13) i (nI b))) 14 (upd (M 14) i (M 1 0))) (va_up S b (S b - 1)) C (fun b' j => if b' = b ∧ k ≤ j then E b' (j + 1) else E b' j) (fun b' j => if b' = b ∧ k ≤ j then P b' (j + 1) else P b' j) := by
          obtain ⟨r1, r2, r3, r4, r5, r6, r7, r8, r9, r10, r11⟩ := h
          have cs : ∀ b' j, b' < 4 → j < va_up S b (S b - 1) b' → ∃ j', j' < S b' ∧ (b' = b → j' ≠ k) ∧ (fun b' j => if b' = b ∧ k ≤ j then E b' (j + 1) else E b' j) b' j = E b' j' ∧ (fun b' j => if b' = b ∧ k ≤ j then P b' (j + 1) else P b' j) b' j = P b' j' ∧ (b' = b ∧ k ≤ j ∧ j' = j + 1 ∨ ¬ (b' = b ∧ k ≤ j) ∧ j' = j) := fun b' j hb' hj => by
            by_cases hbb : b' = b
            · subst hbb
              rw [vu_s] at hj
              by_cases hkj : k ≤ j
              · exact ⟨j + 1, by omega, fun _ => by omega, if_pos ⟨rfl, hkj⟩, if_pos ⟨rfl, hkj⟩, Or.inl ⟨rfl, hkj, rfl⟩⟩
              · exact ⟨j, by omega, fun _ => by omega, if_neg (fun q => hkj q.2), if_neg (fun q => hkj q.2), Or.inr ⟨fun q => hkj q.2, rfl⟩⟩
            · rw [vu_n hbb] at hj
              exact ⟨j, hj, fun q => absurd q hbb, if_neg (fun q => hbb q.1), if_neg (fun q => hbb q.1), Or.inr ⟨fun q => hbb q.1, rfl⟩⟩
          have Pk : ∀ b', b' < 4 → ∀ i', (∃ j, j < va_up S b (S b - 1) b' ∧ (fun b' j => if b' = b ∧ k ≤ j then P b' (j + 1) else P b' j) b' j = i') ↔ ∃ j, j < S b' ∧ (b' = b → j ≠ k) ∧ P b' j = i' := fun b' hb' i' => by
            constructor
            · rintro ⟨j, j1, j2⟩
              obtain ⟨j', y1, y2, y3, y4, y5⟩ := cs b' j hb' j1
              exact ⟨j', y1, y2, by rw [← y4]; exact j2⟩
            · rintro ⟨j, j1, j2, j3⟩
              by_cases hbb : b' = b
              · subst hbb
                have jk := j2 rfl
                by_cases hkj : k < j
                · refine ⟨j - 1, by rw [vu_s]; omega, ?_⟩
                  show (if b' = b' ∧ k ≤ j - 1 then P b' (j - 1 + 1) else P b' (j - 1)) = i'
                  rw [if_pos ⟨rfl, by omega⟩, show j - 1 + 1 = j by omega]
                  exact j3
                · refine ⟨j, by rw [vu_s]; omega, ?_⟩
                  show (if b' = b' ∧ k ≤ j then P b' (j + 1) else P b' j) = i'
                  rw [if_neg (fun q => by omega)]
                  exact j3
              · refine ⟨j, by rw [vu_n hbb]; exact j1, ?_⟩
                show (if b' = b ∧ k ≤ j then P b' (j + 1) else P b' j) = i'
                rw [if_neg (fun q => hbb q.1)]
                exact j3
          have eE : ∀ b', b' ≠ b → (fun b' j => if b' = b ∧ k ≤ j then E b' (j + 1) else E b' j) b' = E b' := fun b' hbb => funext fun j => if_neg (fun q => hbb q.1)
          generalize hE' : (fun b' j => if b' = b ∧ k ≤ j then E b' (j + 1) else E b' j) = E' at *
          generalize hP' : (fun b' j => if b' = b ∧ k ≤ j then P b' (j + 1) else P b' j) = P' at *
          refine ⟨r1, r2, ⟨?_, ?_, ?_, ?_⟩, fun b' hb' => ?_, ⟨r5.1, r5.2.1, fun i' hi' => ?_⟩, r6, ⟨fun b' hb' => ?_, fun b' j hb' hj => ?_, fun b' j j' hb' hj hj' e' => ?_, fun b' j b'' j' hb' hj hb'' hj' e' => ?_, r7.2.2.2.2⟩, fun i' hi' => ?_, fun b' j f hb' hj hf => ?_, r10, r11⟩
          · show uL ((cuI Z 3 (b + 4) (upd (upd (Z.1 3 (b + 4)) 0 (Z.1 3 (b + 4) 0 + 1)) 2 (nI (S b - 1)))).1 3 0) ((cuR Z 4 (b + 4) (fRem (Z.2.1 4 (b + 4)) (S b) k)).2.1 4 0) _ _ _
            rw [cuI_n (fun q => by omega), cuR_n (fun q => by omega)]
            exact r3.1
          · show uL ((cuI Z 3 (b + 4) (upd (upd (Z.1 3 (b + 4)) 0 (Z.1 3 (b + 4) 0 + 1)) 2 (nI (S b - 1)))).1 3 1) ((cuR Z 4 (b + 4) (fRem (Z.2.1 4 (b + 4)) (S b) k)).2.1 4 1) _ _ _
            rw [cuI_n (fun q => by omega), cuR_n (fun q => by omega)]
            exact r3.2.1
          · show uL ((cuI Z 3 (b + 4) (upd (upd (Z.1 3 (b + 4)) 0 (Z.1 3 (b + 4) 0 + 1)) 2 (nI (S b - 1)))).1 3 2) ((cuR Z 4 (b + 4) (fRem (Z.2.1 4 (b + 4)) (S b) k)).2.1 4 2) _ _ _
            rw [cuI_n (fun q => by omega), cuR_n (fun q => by omega)]
            exact r3.2.2.1
          · show uL ((cuI Z 3 (b + 4) (upd (upd (Z.1 3 (b + 4)) 0 (Z.1 3 (b + 4) 0 + 1)) 2 (nI (S b - 1)))).1 3 3) ((cuR Z 4 (b + 4) (fRem (Z.2.1 4 (b + 4)) (S b) k)).2.1 4 3) _ _ _
            rw [cuI_n (fun q => by omega), cuR_n (fun q => by omega)]
            exact r3.2.2.2
          · show uL ((cuI Z 3 (b + 4) (upd (upd (Z.1 3 (b + 4)) 0 (Z.1 3 (b + 4) 0 + 1)) 2 (nI (S b - 1)))).1 3 (b' + 4)) ((cuR Z 4 (b + 4) (fRem (Z.2.1 4 (b + 4)) (S b) k)).2.1 4 (b' + 4)) _ _ _
            by_cases hbb : b' = b
            · subst hbb
              rw [cuI_s, cuR_s, vu_s]
              have hr := (r4 b' hb').rem hk (c3' := upd (upd (Z.1 3 (b' + 4)) 0 (Z.1 3 (b' + 4) 0 + 1)) 2 (nI (S b' - 1))) pk_us
              have eE2 : (fun j => if j < k then E b' j else E b' (j + 1)) = E' b' := by
                rw [← hE']
                funext j
                by_cases hkj : j < k
                · rw [if_pos hkj]
                  exact (if_neg (fun q => by omega)).symm
                · rw [if_neg hkj]
                  exact (if_pos ⟨rfl, by omega⟩).symm
              rw [eE2] at hr
              exact hr
            · rw [cuI_n (fun q => by omega), cuR_n (fun q => by omega), vu_n hbb, eE b' hbb]
              exact r4 b' hb'
          · obtain ⟨f1, f2, f3, f4, f5⟩ := r5.2.2 i' hi'
            show _ ∧ _ ∧ (M 11 i' = 0 ∨ M 11 i' = 1) ∧ _ = upd (M 13) i (nI b) i' ∧ (upd (M 13) i (nI b) i' ≠ -1 → _ = upd (M 14) i (M 1 0) i' / 30)
            by_cases ei : i' = i
            · subst ei
              rw [cuI_s, pk_us, pk_us]
              refine ⟨?_, ?_, f3, ?_, fun _ => by rw [pk_us]⟩
              · rw [pk_un (by omega), pk_un (by omega), pk_un (by omega)]
                exact f1
              · rw [pk_un (by omega), pk_un (by omega), pk_un (by omega)]
                exact f2
              · rw [pk_un (by omega), pk_us]
            · rw [cuI_n (fun q => ei q.2), cuI_n (fun q => ei q.2), cuI_n (fun q => ei q.2), pk_un ei, pk_un ei]
              exact ⟨f1, f2, f3, f4, f5⟩
          · show _ ∧ upd (M 15) b (nI (S b - 1)) b' = _
            by_cases hbb : b' = b
            · subst hbb
              rw [vu_s, pk_us]
              exact ⟨by omega, rfl⟩
            · rw [vu_n hbb, pk_un hbb]
              exact r7.1 b' hb'
          · obtain ⟨j', y1, y2, y3, y4, y5⟩ := cs b' j hb' hj
            obtain ⟨g1, g2, g3, g4⟩ := r7.2.1 b' j' hb' y1
            have hS' := (r7.1 b' hb').1
            rw [y3, y4]
            refine ⟨g1, g2, g3, ?_⟩
            show Mz 16 (8 * b' + j) = _
            rw [z3, ← g4]
            rcases y5 with ⟨w1, w2, w3⟩ | ⟨w1, w2⟩
            · rw [w1] at y1 ⊢
              rw [if_pos (by omega), w3]
              rfl
            · rw [w2] at y1 ⊢
              rw [if_neg (fun q => w1 (by omega))]
              rfl
          · obtain ⟨v1, y1, y2, y3, y4, y5⟩ := cs b' j hb' hj
            obtain ⟨v2, x1, x2, x3, x4, x5⟩ := cs b' j' hb' hj'
            rw [y4, x4] at e'
            have := r7.2.2.1 b' v1 v2 hb' y1 x1 e'
            omega
          · obtain ⟨v1, y1, y2, y3, y4, y5⟩ := cs b' j hb' hj
            obtain ⟨v2, x1, x2, x3, x4, x5⟩ := cs b'' j' hb'' hj'
            rw [y3, x3] at e'
            have := r7.2.2.2.1 b' v1 b'' v2 hb' y1 hb'' x1 e'
            omega
          · obtain ⟨g1, g2⟩ := r8 i' hi'
            have cb : ∀ b', b' < 4 → b' ≠ b → uin (va_up S b (S b - 1)) P' b' i' = uin S P b' i' := fun b' hb' hbb => uin_o ⟨fun q => by
              obtain ⟨j, j1, j2, j3⟩ := (Pk b' hb' i').mp q
              exact ⟨j, j1, j3⟩, fun ⟨j, j1, j2⟩ => (Pk b' hb' i').mpr ⟨j, j1, fun q => absurd q hbb, j2⟩⟩
            by_cases ei : i' = i
            · have hs : uin S P b i' = uin (va_up S b (S b - 1)) P' b i' + 1 := by
                rw [ei, u1, uin_0 (fun j hj ej => by
                  obtain ⟨j', j1, j2, j3⟩ := (Pk b hb i).mp ⟨j, hj, ej⟩
                  exact j2 rfl (r7.2.2.1 b j' k hb j1 hk (by rw [j3, e])))]
              have hc := ucnt_1 (S := va_up S b (S b - 1)) (P := P') (S' := S) (P' := P) hb (fun b' hb' hbb => (cb b' hb' hbb).symm) hs
              rw [ei] at hc ⊢
              rw [cuI_s, pk_un (by omega), pk_un (by omega), pk_us, hc, Nat.add_sub_cancel]
              rw [ei] at g2
              exact ⟨rfl, by omega⟩
            · have hs : uin (va_up S b (S b - 1)) P' b i' = uin S P b i' := uin_o ⟨fun q => by
                obtain ⟨j, j1, j2, j3⟩ := (Pk b hb i').mp q
                exact ⟨j, j1, j3⟩, fun ⟨j, j1, j2⟩ => (Pk b hb i').mpr ⟨j, j1, fun _ ejk => by
                  rw [ejk, e] at j2
                  exact ei j2.symm, j2⟩⟩
              have ho : ucnt (va_up S b (S b - 1)) P' i' = ucnt S P i' := ucnt_o (fun b' hb' => by
                by_cases hbb : b' = b
                · rw [hbb]
                  exact hs
                · exact cb b' hb' hbb)
              rw [ho, cuI_n (fun q => ei q.2), cuI_n (fun q => ei q.2), cuI_n (fun q => ei q.2)]
              exact ⟨g1, g2⟩
          · obtain ⟨j', y1, y2, y3, y4, y5⟩ := cs b' j hb' hj
            have hS' := (r7.1 b' hb').1
            have g := r9 b' j' f hb' y1 hf
            show Z.1 14 (E' b' j) f = Mz 19 (6 * (8 * b' + j) + f) ∧ (Mz 19 (6 * (8 * b' + j) + f) = 0 ∨ Mz 19 (6 * (8 * b' + j) + f) = 1 ∨ Mz 19 (6 * (8 * b' + j) + f) = 2)
            have e19 : Mz 19 (6 * (8 * b' + j) + f) = M 19 (6 * (8 * b' + j') + f) := by
              rw [z4]
              rcases y5 with ⟨w1, w2, w3⟩ | ⟨w1, w2⟩
              · rw [w1] at y1 ⊢
                rw [if_pos (by omega), w3, show 6 * (8 * b + j) + f + 6 = 6 * (8 * b + (j + 1)) + f by omega]
                rfl
              · rw [w2] at y1 ⊢
                rw [if_neg (fun q => w1 (by omega))]
                rfl
            rw [e19, y3]
            exact g
        refine ⟨nI (S b - 1), _, _, em _ _ (m_seatOf_t h hi hb hk e) ?_, ⟨_, C, _, _, H.up⟩, Or.inl ⟨ec _ _ (c_seatOf_t h hi hb hk e) ?_, rfl⟩⟩
        · unfold fX7_leave_35
          rw [if_neg (by decide), if_neg (by rw [nIm1 (by omega)]; exact id)]
          unfold fX7_leave_57
          rw [m_holds_0, cl2_s, if_neg (by decide), gdn hb (by omega), gdn hb (by omega), nIc (by omega)]
          show bnd (va_up (va_up M 0 (fun _ => 0)) 15 (upd (M 15) b (M 15 b - 1))) _ = _
          rw [hS.2, u_s1 (by omega), bnd_e, u_l8, nI_add, bnd_e, z1]
          unfold fX7_leave_167
          rw [gdn (by omega) (by omega), bnd_e, gdn (by omega) (by omega), bnd_e, gdn hb (by omega), nIc (by omega), nIc (by omega), eMz]
          show some (upd (M 15) b (nI (S b - 1)) b, _) = _
          rw [pk_us]
          rfl
        · rw [if_neg (nI_pos (by omega)), if_neg (nI_ge hk (by omega))]
          unfold fX6_leave_44
          rw [c_rs_1, cx1_l, cLv10 hb, gdt, cLv3 (by omega), gdt, hrem, cl2_s]
          have l9 : cLv (cuR (cuI Z 3 (b + 4) (upd (upd (Z.1 3 (b + 4)) 0 (Z.1 3 (b + 4) 0 + 1)) 2 (nI (S b - 1)))) 4 (b + 4) (fRem (Z.2.1 4 (b + 4)) (S b) k)).2.2 9 i = true := cLv9 hi
          have hcn : 1 ≤ ucnt S P i := by
            have : uin S P b i ≤ ucnt S P i := by
              unfold ucnt
              have : b = 0 ∨ b = 1 ∨ b = 2 ∨ b = 3 := by omega
              rcases this with rfl | rfl | rfl | rfl <;> omega
            omega
          rw [l9, gdt]
          show bnd (cuI (cuR (cuI Z 3 (b + 4) (upd (upd (Z.1 3 (b + 4)) 0 (Z.1 3 (b + 4) 0 + 1)) 2 (nI (S b - 1)))) 4 (b + 4) (fRem (Z.2.1 4 (b + 4)) (S b) k)) 9 i (upd (Z.1 9 i) 3 (Z.1 9 i 3 - 1))) _ = _
          rw [f8.1, u_s1 hcn, bnd_e, cuI_s, bnd_e]
          unfold fX6_seasonNow
          rw [cl1_s, cuI_s]
          show bnd (cuI (cuI (cuI (cuR (cuI Z 3 (b + 4) (upd (upd (Z.1 3 (b + 4)) 0 (Z.1 3 (b + 4) 0 + 1)) 2 (nI (S b - 1)))) 4 (b + 4) (fRem (Z.2.1 4 (b + 4)) (S b) k)) 9 i (upd (Z.1 9 i) 3 (nI (ucnt S P i - 1)))) 9 i (upd (upd (Z.1 9 i) 3 (nI (ucnt S P i - 1))) 4 (nI b))) 9 i (upd (upd (upd (Z.1 9 i) 3 (nI (ucnt S P i - 1))) 4 (nI b)) 5 (Z.1 0 0 6 / 30))) _ = _
          rw [show Z.1 0 0 6 = M 1 0 from h.1.2.1, bnd_e]
          have hs := H.ls4 hb
          have l10 : ∀ Z' : CZ, cLv Z'.2.2 10 b = true := fun _ => cLv10 hb
          rw [l10, gdt, cLv3 (by omega), gdt, hs.size (by omega), cl1_s, show (va_up S b (S b - 1)) b = S b - 1 from vu_s]
      · refine sI_err (cd := 3) (j := 1) ⟨S, C, E, P, h⟩ (em _ _ (m_seatOf_f h hi hb e) ?_) (ec _ _ (c_seatOf_f h hi hb e) ?_) rfl rfl
        · rfl
        · rfl
    · refine sI_err (cd := 1) (j := 0) ⟨S, C, E, P, h⟩ ?_ ?_ rfl rfl
      · unfold fX7_leave
        rw [h.isPlayer hi, cl1_s, if_neg (by decide), m_isBandF hf, cl1_s, if_pos (by decide)]
        rfl
      · unfold fX6_leave
        rw [h.playerAt hi, cx1_l, h.bandAtF hf, cx1_r]
  · refine sI_err (cd := 1) (j := 0) ⟨S, C, E, P, h⟩ ?_ ?_ rfl rfl
    · unfold fX7_leave
      rw [h.isPlayerF hf, cl1_s, if_pos (by decide)]
      rfl
    · unfold fX6_leave
      rw [h.playerAtF hf, cx1_r]
end URV
