/-! PURE PART. note, mark, takeBack, give, ofPlayer. -/
section URM
variable {n : Nat} {Z : CZ} {M : MT} {S C : Nat → Nat} {E P : Nat → Nat → Nat}
theorem ok_note : st_note (uR n) (uR (n + 1)) := by
  rintro Z M ⟨S, C, E, P, h⟩ a1 a2
  rcases uIx_or a1 (n := 4) (by omega) with ⟨b, hb, rfl⟩ | hf
  · obtain ⟨hC, hM, hZ⟩ := h.nC hb
    rcases rg_or a2 0 11 with ⟨h1, h2⟩ | hf
    · obtain ⟨v, _, hv, rfl⟩ := rg_nI (b := 0) (c := 11) (by omega) (by omega) h1 h2
      by_cases hc : C b = 24
      · refine sI_err (cd := 3) (j := 2) ⟨S, C, E, P, h⟩ ?_ ?_ rfl rfl
        · unfold fX7_note
          rw [m_isBand hb, cl1_s, if_neg (by decide), m_isIn_t h1 h2, cl1_s, if_neg (by decide), gdn hb (by omega), nIc (by omega), hM, hc, if_pos (by decide)]
          rfl
        · unfold fX6_note
          rw [h.bandAt hb, cx1_l, c_rr_t h1 h2, cx1_l, cLv10 hb, gdt, hZ, hc, if_pos (by decide)]
          rfl
      · obtain ⟨r1, r2, r3, r4, r5, r6, r7, r8, r9, r10, r11⟩ := h
        have h' : uRR n Z M S C E P := ⟨r1, r2, r3, r4, r5, r6, r7, r8, r9, r10, r11⟩
        have hne : ¬ (nI (C b) = (24 : Int32)) := fun e => hc ((nI_eq (b := 24) (by omega) (by omega)).mp e)
        have hle : ¬ ((24 : Int32) ≤ nI (C b)) := nI_ge (b := 24) (by omega) (by omega)
        refine ⟨nI (C b + 1), va_up (va_up (va_up M 0 (fun _ => 0)) 18 (upd (M 18) (24 * b + C b) (nI v))) 17 (upd (M 17) b (nI (C b + 1))), cuI (cuI Z 11 b (upd (Z.1 11 b) (C b) (nI v))) 10 b (upd (Z.1 10 b) 3 (nI (C b + 1))), ?_, uR.intro (S) (va_up C b (C b + 1)) (E) (P) ⟨r1, r2, r3, r4, r5, r6, r7, r8, r9, ?_, ?_, r11.2⟩, Or.inl ⟨?_, rfl⟩⟩
        · unfold fX7_note
          rw [m_isBand hb, cl1_s, if_neg (by decide), m_isIn_t h1 h2, cl1_s, if_neg (by decide), gdn hb (by omega), nIc (by omega), hM, if_neg hne]
          unfold fX7_note_42
          rw [m_holds_0, cl2_s, if_neg (by decide), gdn hb (by omega), nIc (by omega)]
          show gd (gin (24 * nI b + M 17 b) 96) (bnd (va_up (va_up M 0 (fun _ => 0)) 18 (upd (M 18) (24 * nI b + M 17 b).toNatClampNeg (nI v))) (fun M11 => gd (gin (nI b) 4) (gd (gin (nI b) 4) (bnd (va_up M11 17 (upd (M11 17) b (M11 17 b + 1))) (fun M14 => gd (gin (nI b) 4) (some (M14 17 b, M14))))))) = _
          rw [hM, u_l24, nI_add, gdn (by omega) (by omega), nIc (by omega), bnd_e, gdn hb (by omega), gdn hb (by omega), bnd_e, gdn hb (by omega)]
          show some (upd (M 17) b (M 17 b + 1) b, va_up (va_up (va_up M 0 (fun _ => 0)) 18 (upd (M 18) (24 * b + C b) (nI v))) 17 (upd (M 17) b (M 17 b + 1))) = _
          rw [hM, u_a1, pk_us]
        · intro b' hb'
          obtain ⟨g1, g2, g3, g4⟩ := r10 b' hb'
          have hC' := (h'.nC hb').1
          by_cases hbb : b' = b
          · subst hbb
            refine ⟨by rw [vu_s]; omega, ?_, ?_, fun j hj => ?_⟩
            · show upd (M 17) b' (nI (C b' + 1)) b' = _
              rw [pk_us, vu_s]
            · rw [cuI_s, pk_us, vu_s]
            · show ((cuI Z 11 b' (upd (Z.1 11 b') (C b') (nI v))).1 11 b' j = upd (M 18) (24 * b' + C b') (nI v) (24 * b' + j)) ∧ ∃ w, w < 12 ∧ upd (M 18) (24 * b' + C b') (nI v) (24 * b' + j) = nI w
              rw [cuI_s]
              by_cases hjj : j = C b'
              · subst hjj
                rw [pk_us, pk_us]
                exact ⟨rfl, v, by omega, rfl⟩
              · rw [pk_un hjj, pk_un (by omega)]
                exact g4 j hj
          · refine ⟨by rw [vu_n hbb]; exact g1, ?_, ?_, fun j hj => ?_⟩
            · show upd (M 17) b (nI (C b + 1)) b' = _
              rw [pk_un hbb, vu_n hbb]
              exact g2
            · rw [cuI_n (fun q => hbb q.2), vu_n hbb]
              exact g3
            · show ((cuI Z 11 b (upd (Z.1 11 b) (C b) (nI v))).1 11 b' j = upd (M 18) (24 * b + C b) (nI v) (24 * b' + j)) ∧ ∃ w, w < 12 ∧ upd (M 18) (24 * b + C b) (nI v) (24 * b' + j) = nI w
              rw [cuI_n (fun q => hbb q.2), pk_un (by omega)]
              exact g4 j hj
        · intro b' hb'
          have g := r11.1 b' hb'
          by_cases hbb : b' = b
          · subst hbb
            rw [cuI_s]
            exact g
          · rw [cuI_n (fun q => hbb q.2)]
            exact g
        · unfold fX6_note
          rw [h'.bandAt hb, cx1_l, c_rr_t h1 h2, cx1_l, cLv10 hb, gdt, hZ, if_neg hle]
          unfold fX6_note_27
          rw [c_rs_1, cx1_l, cLv10 hb, gdt, hZ, gdn (by omega) (by omega), nIc (by omega), bnd_e, bnd_e]
          rw [cuI_s]
          show some (Sum.inl (upd (Z.1 10 b) 3 (Z.1 10 b 3 + 1) 3), cuI (cuI Z 11 b (upd (Z.1 11 b) (C b) (nI v))) 10 b (upd (Z.1 10 b) 3 (Z.1 10 b 3 + 1))) = _
          rw [hZ, u_a1, pk_us]
    · refine sI_err (cd := 2) (j := 1) ⟨S, C, E, P, h⟩ ?_ ?_ rfl rfl
      · unfold fX7_note
        rw [m_isBand hb, cl1_s, if_neg (by decide), m_isIn_f hf, cl1_s, if_pos (by decide)]
        rfl
      · unfold fX6_note
        rw [h.bandAt hb, cx1_l, c_rr_f hf, cx1_r]
  · refine sI_err (cd := 1) (j := 0) ⟨S, C, E, P, h⟩ ?_ ?_ rfl rfl
    · unfold fX7_note
      rw [m_isBandF hf, cl1_s, if_pos (by decide)]
      rfl
    · unfold fX6_note
      rw [h.bandAtF hf, cx1_r]
/-! marks -/
def ucm (z : Nat → Int32) (j : Nat) : Nat := if z j = -1 then 0 else 1
theorem c_cm_s {b x c : Nat} (hb : b < 4) (hx : x < 5) (fuel : Nat) : lf3 (fX0_countMarks_4 Z) (fuel + 1) b (nI c) (nI x) = lf3 (fX0_countMarks_4 Z) fuel b (nI (c + ucm (Z.1 12 b) x)) (nI (x + 1)) := by
  rw [lf3_s]
  unfold fX0_countMarks_4
  rw [if_neg (show ¬ ((5 : Int32) ≤ nI x) from nI_ge (b := 5) (by omega) (by omega)), cLv10 hb, gdt, gdn hx (by omega), nIc (by omega)]
  unfold ucm
  by_cases h : Z.1 12 b x = -1
  · rw [if_pos h, if_pos h]
    unfold fX0_countMarks_22
    rw [bnd_e, u_a1]
    rfl
  · rw [if_neg h, if_neg h, bnd_e, u_a1]
    unfold fX0_countMarks_22
    rw [bnd_e, u_a1]
theorem c_cm_e {b c : Nat} (fuel : Nat) : lf3 (fX0_countMarks_4 Z) (fuel + 1) b (nI c) (nI 5) = some (nI c) := by
  rw [lf3_s]
  unfold fX0_countMarks_4
  rw [if_pos (by decide)]
  rfl
theorem c_countMarks {b : Nat} (hb : b < 4) : fX0_countMarks b Z = some (nI (ucm (Z.1 12 b) 0 + ucm (Z.1 12 b) 1 + ucm (Z.1 12 b) 2 + ucm (Z.1 12 b) 3 + ucm (Z.1 12 b) 4)) := by
  unfold fX0_countMarks
  show lf3 (fX0_countMarks_4 Z) (94 + 1 + 1 + 1 + 1 + 1 + 1) b (nI 0) (nI 0) = _
  rw [c_cm_s hb (by omega), c_cm_s hb (by omega), c_cm_s hb (by omega), c_cm_s hb (by omega), c_cm_s hb (by omega), c_cm_e, Nat.zero_add]
theorem ucm_umk {m : Nat → Int32} {z : Nat → Int32} {b j : Nat} (h : z j = m (5 * b + j)) : ucm z j = umk m b j := by
  unfold ucm umk
  rw [h]
theorem uRR.cm (h : uRR n Z M S C E P) {b : Nat} (hb : b < 4) : fX0_countMarks b Z = some (M 25 b) := by
  obtain ⟨g1, g2⟩ := h.2.2.2.2.2.2.2.2.2.2.2 b hb
  rw [c_countMarks hb, g2, ucm_umk (g1 0 (by omega)).1, ucm_umk (g1 1 (by omega)).1, ucm_umk (g1 2 (by omega)).1, ucm_umk (g1 3 (by omega)).1, ucm_umk (g1 4 (by omega)).1]
theorem umk_le (m : Nat → Int32) (b j : Nat) : umk m b j ≤ 1 := by
  unfold umk
  split <;> omega
theorem umk_o {m m' : Nat → Int32} {b j : Nat} (h : m' (5 * b + j) = m (5 * b + j)) : umk m' b j = umk m b j := by
  unfold umk
  rw [h]
theorem umk_0 {m : Nat → Int32} {b j : Nat} (h : m (5 * b + j) = -1) : umk m b j = 0 := if_pos h
theorem umk_1 {m : Nat → Int32} {b j : Nat} (h : ¬ m (5 * b + j) = -1) : umk m b j = 1 := if_neg h
theorem umk_set {m : Nat → Int32} {b k v : Nat} (hk : k < 5) (hv : v ≤ 100) (h0 : m (5 * b + k) = -1) : umk (upd m (5 * b + k) (nI v)) b 0 + umk (upd m (5 * b + k) (nI v)) b 1 + umk (upd m (5 * b + k) (nI v)) b 2 + umk (upd m (5 * b + k) (nI v)) b 3 + umk (upd m (5 * b + k) (nI v)) b 4 = umk m b 0 + umk m b 1 + umk m b 2 + umk m b 3 + umk m b 4 + 1 := by
  have hs : umk (upd m (5 * b + k) (nI v)) b k = 1 := umk_1 (by rw [pk_us, nIm1 (by omega)]; exact id)
  have h1 : umk m b k = 0 := umk_0 h0
  have ho : ∀ j, j ≠ k → umk (upd m (5 * b + k) (nI v)) b j = umk m b j := fun j hj => umk_o (pk_un (by omega))
  have hk5 : k = 0 ∨ k = 1 ∨ k = 2 ∨ k = 3 ∨ k = 4 := by omega
  rcases hk5 with rfl | rfl | rfl | rfl | rfl
  · rw [ho 1 (by omega), ho 2 (by omega), ho 3 (by omega), ho 4 (by omega)]
    omega
  · rw [ho 0 (by omega), ho 2 (by omega), ho 3 (by omega), ho 4 (by omega)]
    omega
  · rw [ho 0 (by omega), ho 1 (by omega), ho 3 (by omega), ho 4 (by omega)]
    omega
  · rw [ho 0 (by omega), ho 1 (by omega), ho 2 (by omega), ho 4 (by omega)]
    omega
  · rw [ho 0 (by omega), ho 1 (by omega), ho 2 (by omega), ho 3 (by omega)]
    omega
theorem ok_mark : st_mark (uR n) (uR (n + 1)) := by
  rintro Z M ⟨S, C, E, P, h⟩ a1 a2 a3
  rcases uIx_or a1 (n := 4) (by omega) with ⟨b, hb, rfl⟩ | hf
  · rcases uIx_or a2 (n := 5) (by omega) with ⟨k, hk, rfl⟩ | hf
    · have hj : fX7_isIn (nI k) 0 4 = some 1 := m_inL_t 5 (by decide) hk (by omega)
      obtain ⟨q1, q2⟩ := h.2.2.2.2.2.2.2.2.2.2.2 b hb
      obtain ⟨g1, g2, g3⟩ := h.2.2.2.2.2.2.2.2.2.2.1 b hb
      rcases rg_or a3 0 100 with ⟨h1, h2⟩ | hf
      · obtain ⟨v, _, hv, rfl⟩ := rg_nI (b := 0) (c := 100) (by omega) (by omega) h1 h2
        have c3 : ∀ t : Int32, fX6_mark_44 (nI k) (nI v) b 0 Z = some (.inr 3, Z) := fun _ => rfl
        rcases g3 with ⟨p1, p2, _⟩ | ⟨p1, p2, hh, p3, p4⟩
        · refine sI_err (cd := 3) (j := 2) ⟨S, C, E, P, h⟩ ?_ ?_ rfl rfl
          · unfold fX7_mark
            rw [m_isBand hb, cl1_s, if_neg (by decide), hj, cl1_s, if_neg (by decide)]
            unfold fX7_mark_21
            rw [if_neg (by decide), gdn hb (by omega), nIc (by omega), p1, if_pos (by decide)]
            unfold fX7_mark_55 fX7_mark_56
            rw [if_neg (by decide), m_isIn_t h1 h2]
            rfl
          · unfold fX6_mark
            rw [h.bandAt hb, cx1_l, c_ri_t5 hk, cx1_l, c_rr_t h1 h2, cx1_l, cLv10 hb, gdt, p2, if_pos (by decide)]
            rfl
        · by_cases hm : M 26 (5 * b + k) = -1
          · obtain ⟨r1, r2, r3, r4, r5, r6, r7, r8, r9, r10, r11, r12⟩ := h
            have h' : uRR n Z M S C E P := ⟨r1, r2, r3, r4, r5, r6, r7, r8, r9, r10, r11, r12⟩
            have hset := umk_set hk hv hm
            have es : M 25 b + 1 = nI (umk (M 26) b 0 + umk (M 26) b 1 + umk (M 26) b 2 + umk (M 26) b 3 + umk (M 26) b 4 + 1) := by rw [q2, u_a1]
            have H : uRR n (cuI Z 12 b (upd (Z.1 12 b) k (nI v))) (va_up (va_up (va_up M 0 (fun _ => 0)) 26 (upd (M 26) (5 * b + k) (nI v))) 25 (upd (M 25) b (M 25 b + 1))) S C E P := by
              refine ⟨r1, r2, r3, r4, r5, r6, r7, r8, r9, r10, fun b' hb' => ?_, fun b' hb' => ?_⟩
              · obtain ⟨t1, t2, t3⟩ := r11 b' hb'
                refine ⟨t1, t2, ?_⟩
                show M 22 b' = 0 ∧ Z.1 10 b' 5 = -1 ∧ upd (M 25) b (M 25 b + 1) b' = 0 ∨ M 22 b' = 1 ∧ Z.1 10 b' 5 = M 23 b' ∧ ∃ h, h < 1000 ∧ M 23 b' = nI h
                by_cases hbb : b' = b
                · rw [hbb]
                  exact Or.inr ⟨p1, p2, hh, p3, p4⟩
                · rw [pk_un hbb]
                  exact t3
              obtain ⟨t1, t2⟩ := r12 b' hb'
              show (∀ j, j < 5 → (cuI Z 12 b (upd (Z.1 12 b) k (nI v))).1 12 b' j = upd (M 26) (5 * b + k) (nI v) (5 * b' + j) ∧ (upd (M 26) (5 * b + k) (nI v) (5 * b' + j) = -1 ∨ ∃ w, w ≤ 100 ∧ upd (M 26) (5 * b + k) (nI v) (5 * b' + j) = nI w)) ∧ upd (M 25) b (M 25 b + 1) b' = nI (umk (upd (M 26) (5 * b + k) (nI v)) b' 0 + umk (upd (M 26) (5 * b + k) (nI v)) b' 1 + umk (upd (M 26) (5 * b + k) (nI v)) b' 2 + umk (upd (M 26) (5 * b + k) (nI v)) b' 3 + umk (upd (M 26) (5 * b + k) (nI v)) b' 4)
              by_cases hbb : b' = b
              · subst hbb
                refine ⟨fun j hj => ?_, ?_⟩
                · rw [cuI_s]
                  by_cases hjk : j = k
                  · subst hjk
                    rw [pk_us, pk_us]
                    exact ⟨rfl, Or.inr ⟨v, hv, rfl⟩⟩
                  · rw [pk_un hjk, pk_un (by omega)]
                    exact t1 j hj
                · rw [hset, pk_us, es]
              · refine ⟨fun j hj => ?_, ?_⟩
                · rw [cuI_n (fun q => hbb q.2), pk_un (by omega)]
                  exact t1 j hj
                · rw [pk_un hbb, umk_o (pk_un (by omega)), umk_o (pk_un (by omega)), umk_o (pk_un (by omega)), umk_o (pk_un (by omega)), umk_o (pk_un (by omega))]
                  exact t2
            refine ⟨M 25 b + 1, _, _, ?_, ⟨S, C, E, P, H.up⟩, Or.inl ⟨?_, rfl⟩⟩
            · unfold fX7_mark
              rw [m_isBand hb, cl1_s, if_neg (by decide), hj, cl1_s, if_neg (by decide)]
              unfold fX7_mark_21
              rw [if_neg (by decide), gdn hb (by omega), nIc (by omega), p1, if_neg (by decide), u_l5, nI_add, gdn (by omega) (by omega), nIc (by omega), hm, if_pos (by decide)]
              unfold fX7_mark_56
              rw [if_neg (by decide), m_isIn_t h1 h2, cl1_s, if_neg (by decide), if_neg (by decide)]
              unfold fX7_mark_92
              rw [m_holds_0, cl2_s, if_neg (by decide), u_l5, nI_add, gdn (by omega) (by omega), nIc (by omega), bnd_e, gdn hb (by omega), gdn hb (by omega), bnd_e, gdn hb (by omega), nIc (by omega)]
              show some (upd (M 25) b (M 25 b + 1) b, _) = _
              rw [pk_us]
              rfl
            · unfold fX6_mark
              rw [h'.bandAt hb, cx1_l, c_ri_t5 hk, cx1_l, c_rr_t h1 h2, cx1_l, cLv10 hb, gdt, p2, p4, if_neg (by rw [nIm1 (by omega)]; exact id), gdn hk (by omega), nIc (by omega), (q1 k hk).1, hm, if_pos (by decide)]
              unfold fX6_mark_44
              rw [c_rs_1, cx1_l, cLv10 hb, gdt, gdn hk (by omega), nIc (by omega), bnd_e, H.cm hb, cl1_s]
              show some (Sum.inl (upd (M 25) b (M 25 b + 1) b), _) = _
              rw [pk_us]
          · refine sI_err (cd := 3) (j := 2) ⟨S, C, E, P, h⟩ ?_ ?_ rfl rfl
            · unfold fX7_mark
              rw [m_isBand hb, cl1_s, if_neg (by decide), hj, cl1_s, if_neg (by decide)]
              unfold fX7_mark_21
              rw [if_neg (by decide), gdn hb (by omega), nIc (by omega), p1, if_neg (by decide), u_l5, nI_add, gdn (by omega) (by omega), nIc (by omega), if_neg hm]
              unfold fX7_mark_55 fX7_mark_56
              rw [if_neg (by decide), m_isIn_t h1 h2]
              rfl
            · unfold fX6_mark
              rw [h.bandAt hb, cx1_l, c_ri_t5 hk, cx1_l, c_rr_t h1 h2, cx1_l, cLv10 hb, gdt, p2, p4, if_neg (by rw [nIm1 (by omega)]; exact id), gdn hk (by omega), nIc (by omega), (q1 k hk).1, if_neg hm]
              rfl
      · refine sI_err (cd := 2) (j := 1) ⟨S, C, E, P, h⟩ ?_ ?_ rfl rfl
        · have em : ∀ t0 : Int32, fX7_mark_56 (nI b) (nI k) a3 1 t0 M = some (0, va_up M 0 (fun _ => 2)) := fun t0 => by
            unfold fX7_mark_56
            rw [if_neg (by decide), m_isIn_f hf]
            rfl
          unfold fX7_mark
          rw [m_isBand hb, cl1_s, if_neg (by decide), hj, cl1_s, if_neg (by decide)]
          unfold fX7_mark_21
          rw [if_neg (by decide), gdn hb (by omega), nIc (by omega), u_l5, nI_add, gdn (by omega) (by omega), nIc (by omega)]
          unfold fX7_mark_55
          rw [em, em]
          split
          · rfl
          · split <;> rfl
        · unfold fX6_mark
          rw [h.bandAt hb, cx1_l, c_ri_t5 hk, cx1_l, c_rr_f hf, cx1_r]
    · refine sI_err (cd := 1) (j := 0) ⟨S, C, E, P, h⟩ ?_ ?_ rfl rfl
      · unfold fX7_mark
        rw [m_isBand hb, cl1_s, if_neg (by decide), m_inL_f 5 (by decide) hf (by omega), cl1_s, if_pos (by decide)]
        rfl
      · unfold fX6_mark
        rw [h.bandAt hb, cx1_l, c_ri_f5 hf, cx1_r]
  · refine sI_err (cd := 1) (j := 0) ⟨S, C, E, P, h⟩ ?_ ?_ rfl rfl
    · unfold fX7_mark
      rw [m_isBandF hf, cl1_s, if_pos (by decide)]
      rfl
    · unfold fX6_mark
      rw [h.bandAtF hf, cx1_r]
/-! pans of players -/
theorem oi_n : oi none = -1 := rfl
theorem oi_s (q : Nat) : oi (some q) = nI q := rfl
theorem ok_takeBack : st_takeBack (uR n) (uR (n + 1)) := by
  rintro Z M ⟨S, C, E, P, h⟩ a1
  have hnl := h.nl.1
  have hnp := h.np.1
  rcases uIx_or a1 (n := Z.2.2 1) (by omega) with ⟨k, hk, rfl⟩ | hf
  · obtain ⟨r1, r2, r3, r4, r5, r6, r7, r8, r9, r10⟩ := h
    have h' : uRR n Z M S C E P := ⟨r1, r2, r3, r4, r5, r6, r7, r8, r9, r10⟩
    obtain ⟨o1, o2, o3⟩ := r6
    have m12 := (o1 k hk).1
    rcases hq : Z.2.1 9 k 2 with _ | q
    · rw [hq, oi_n] at m12
      refine sI_err (cd := 3) (j := 1) ⟨S, C, E, P, h'⟩ ?_ ?_ rfl rfl
      · unfold fX7_takeBack
        rw [h'.isPlayer hk, cl1_s, if_neg (by decide), gdn (by omega) (by omega), nIc (by omega), m12, if_pos (by decide)]
        rfl
      · unfold fX6_takeBack
        rw [h'.playerAt hk, cx1_l, cLv9 hk, gdt, hq, op2_n]
    · have hqp := (o1 k hk).2 q hq
      rw [hq, oi_s] at m12
      refine ⟨nI q, va_up (va_up M 0 (fun _ => 0)) 12 (upd (M 12) k (-1)), cuI (cuR Z 9 k (va_up (Z.2.1 9 k) 2 none)) 5 q (upd (Z.1 5 q) 4 0), ?_, uR.intro (S) (C) (E) (P) ⟨r1, ?_, r3, r4, r5, ⟨fun i hi => ?_, fun i i' q' hi hi' e e' => ?_, fun q' hq' => ?_⟩, r7, r8, r9, r10⟩, Or.inl ⟨?_, rfl⟩⟩
      · unfold fX7_takeBack
        rw [h'.isPlayer hk, cl1_s, if_neg (by decide), gdn (by omega) (by omega), nIc (by omega), m12, if_neg (by rw [nIm1 (by omega)]; exact id)]
        unfold fX7_takeBack_30
        rw [m_holds_0, cl2_s, if_neg (by decide), gdn (by omega) (by omega), bnd_e, gdn (by omega) (by omega), bnd_e, nIc (by omega)]
        show some (M 12 k, _) = _
        rw [m12]
        rfl
      · obtain ⟨t1, t2, t3, t4⟩ := r2
        refine ⟨t1, t2, fun i hi => ?_, t4⟩
        by_cases e : i = q
        · subst e
          rw [cuI_s]
          exact t3 i hi
        · rw [cuI_n (fun z => e z.2)]
          exact t3 i hi
      · show upd (M 12) k (-1) i = oi ((cuR Z 9 k (va_up (Z.2.1 9 k) 2 none)).2.1 9 i 2) ∧ ∀ q', (cuR Z 9 k (va_up (Z.2.1 9 k) 2 none)).2.1 9 i 2 = some q' → q' < Z.2.2 0
        by_cases e : i = k
        · subst e
          rw [cuR_s, vu_s, pk_us]
          exact ⟨rfl, fun q' z => by cases z⟩
        · rw [cuR_n (fun z => e z.2), pk_un e]
          exact o1 i hi
      · have w : ∀ i q', (cuR Z 9 k (va_up (Z.2.1 9 k) 2 none)).2.1 9 i 2 = some q' → Z.2.1 9 i 2 = some q' := fun i q' e => by
          by_cases ek : i = k
          · subst ek
            rw [cuR_s, vu_s] at e
            cases e
          · rw [cuR_n (fun z => ek z.2)] at e
            exact e
        exact o2 i i' q' hi hi' (w _ _ e) (w _ _ e')
      · have w : ∀ i, i ≠ k → (cuR Z 9 k (va_up (Z.2.1 9 k) 2 none)).2.1 9 i 2 = Z.2.1 9 i 2 := fun i e => by rw [cuR_n (fun z => e z.2)]
        have wk : (cuR Z 9 k (va_up (Z.2.1 9 k) 2 none)).2.1 9 k 2 = none := by rw [cuR_s, vu_s]
        show ((cuI (cuR Z 9 k (va_up (Z.2.1 9 k) 2 none)) 5 q (upd (Z.1 5 q) 4 0)).1 5 q' 4 = 1 ∧ ∃ i, i < Z.2.2 1 ∧ (cuR Z 9 k (va_up (Z.2.1 9 k) 2 none)).2.1 9 i 2 = some q') ∨ ((cuI (cuR Z 9 k (va_up (Z.2.1 9 k) 2 none)) 5 q (upd (Z.1 5 q) 4 0)).1 5 q' 4 = 0 ∧ ∀ i, i < Z.2.2 1 → (cuR Z 9 k (va_up (Z.2.1 9 k) 2 none)).2.1 9 i 2 ≠ some q')
        by_cases eq : q' = q
        · subst eq
          rw [cuI_s, pk_us]
          refine Or.inr ⟨rfl, fun i hi => ?_⟩
          by_cases ek : i = k
          · subst ek
            rw [wk]
            exact fun z => by cases z
          · rw [w i ek]
            exact fun z => ek (o2 i k q' hi hk z hq)
        · rw [cuI_n (fun z => eq z.2)]
          rcases o3 q' hq' with ⟨x1, i, x2, x3⟩ | ⟨x1, x2⟩
          · refine Or.inl ⟨x1, i, x2, ?_⟩
            rw [w i (fun ek => by subst ek; rw [hq] at x3; cases x3; exact eq rfl)]
            exact x3
          · refine Or.inr ⟨x1, fun i hi => ?_⟩
            by_cases ek : i = k
            · subst ek
              rw [wk]
              exact fun z => by cases z
            · rw [w i ek]
              exact x2 i hi
      · unfold fX6_takeBack
        rw [h'.playerAt hk, cx1_l, cLv9 hk, gdt, hq, op2_s, bnd_e]
        have h5 : cLv (cuR Z 9 k (va_up (Z.2.1 9 k) 2 none)).2.2 5 q = true := cLv5 hqp
        rw [h5, gdt, bnd_e, cuI_s]
        show some (Sum.inl (upd (Z.1 5 q) 4 0 0), _) = _
        rw [pk_un (by omega), r2.2.2.1 q hqp]
        rfl
  · refine sI_err (cd := 1) (j := 0) ⟨S, C, E, P, h⟩ ?_ ?_ rfl rfl
    · unfold fX7_takeBack
      rw [h.isPlayerF hf, cl1_s, if_pos (by decide)]
      rfl
    · unfold fX6_takeBack
      rw [h.playerAtF hf, cx1_r]
theorem m_isGiven (h : uRR n Z M S C E P) {q : Nat} (hq : q < 6) : ∀ (d x fuel : Nat) (v : Int32), x + d = Z.2.2 1 → d < fuel → (v = 0 ∨ v = 1) → ∃ w : Int32, lf3 (fX7_isGiven_4 M) fuel (nI q) v (nI x) = some w ∧ (w = 0 ∨ w = 1) ∧ (w = 1 ↔ v = 1 ∨ ∃ i, x ≤ i ∧ i < Z.2.2 1 ∧ Z.2.1 9 i 2 = some q)
  | _, _, 0, _, _, hf, _ => absurd hf (by omega)
  | 0, x, fuel + 1, v, hx, _, hv => by
    have hnl := h.nl
    rw [lf3_s]
    unfold fX7_isGiven_4
    rw [hnl.2, if_pos (nI_le (by omega) (by omega))]
    unfold fX7_isGiven_38
    rw [gdb hv]
    exact ⟨v, rfl, hv, ⟨Or.inl, fun z => z.resolve_right (fun ⟨i, i1, i2, _⟩ => by omega)⟩⟩
  | d + 1, x, fuel + 1, v, hx, hf, hv => by
    have hnl := h.nl
    have go : ∀ t : Int32, (t = 0 ∨ t = 1) → (t = 1 ↔ v = 1 ∨ Z.2.1 9 x 2 = some q) → fX7_isGiven_31 M (lf3 (fX7_isGiven_4 M) fuel) (nI q) (nI x) t = lf3 (fX7_isGiven_4 M) (fuel + 1) (nI q) v (nI x) → ∃ w : Int32, lf3 (fX7_isGiven_4 M) (fuel + 1) (nI q) v (nI x) = some w ∧ (w = 0 ∨ w = 1) ∧ (w = 1 ↔ v = 1 ∨ ∃ i, x ≤ i ∧ i < Z.2.2 1 ∧ Z.2.1 9 i 2 = some q) := by
      intro t ht hti e
      obtain ⟨w, w1, w2, w3⟩ := m_isGiven h hq d (x + 1) fuel t (by omega) (by omega) ht
      refine ⟨w, ?_, w2, ?_⟩
      · rw [← e]
        unfold fX7_isGiven_31
        rw [bnd_e, u_a1]
        exact w1
      · rw [w3, hti]
        constructor
        · rintro ((z | z) | ⟨i, i1, i2, i3⟩)
          · exact Or.inl z
          · exact Or.inr ⟨x, by omega, by omega, z⟩
          · exact Or.inr ⟨i, by omega, i2, i3⟩
        · rintro (z | ⟨i, i1, i2, i3⟩)
          · exact Or.inl (Or.inl z)
          · by_cases ei : i = x
            · subst ei
              exact Or.inl (Or.inr i3)
            · exact Or.inr ⟨i, by omega, i2, i3⟩
    obtain ⟨o1, o2⟩ := h.2.2.2.2.2.1.1 x (by omega)
    by_cases hv0 : v = 0
    · by_cases hm : Z.2.1 9 x 2 = some q
      · refine go 1 (Or.inr rfl) ⟨fun _ => Or.inr hm, fun _ => rfl⟩ ?_
        rw [lf3_s]
        rw [hm, oi_s] at o1
        rw [show fX7_isGiven_4 M (lf3 (fX7_isGiven_4 M) fuel) (nI q) v (nI x) = fX7_isGiven_26 M (lf3 (fX7_isGiven_4 M) fuel) (nI q) (nI x) from by
          unfold fX7_isGiven_4
          rw [hnl.2, if_neg (nI_ge (by omega) (by omega)), if_pos hv0, gdn (by omega) (by omega), nIc (by omega), if_pos o1]]
        rfl
      · refine go 0 (Or.inl rfl) ⟨fun z => absurd z (by decide), fun z => z.elim (fun e => by rw [hv0] at e; exact absurd e (by decide)) (fun e => absurd e hm)⟩ ?_
        rw [lf3_s]
        rw [show fX7_isGiven_4 M (lf3 (fX7_isGiven_4 M) fuel) (nI q) v (nI x) = fX7_isGiven_31 M (lf3 (fX7_isGiven_4 M) fuel) (nI q) (nI x) 0 from by
          unfold fX7_isGiven_4
          rw [hnl.2, if_neg (nI_ge (by omega) (by omega)), if_pos hv0, gdn (by omega) (by omega), nIc (by omega), if_neg]
          rw [o1]
          rcases hq2 : Z.2.1 9 x 2 with _ | q2
          · rw [oi_n]
            exact fun e => (nIm1 (n := q) (by omega)).mp e.symm
          · have := o2 q2 hq2
            have := h.np.1
            rw [oi_s, nIe (by omega) (by omega)]
            intro e
            rw [hq2, e] at hm
            exact hm rfl]
    · have hv1 : v = 1 := hv.resolve_left hv0
      refine go 1 (Or.inr rfl) ⟨fun _ => Or.inl hv1, fun _ => rfl⟩ ?_
      rw [lf3_s]
      rw [show fX7_isGiven_4 M (lf3 (fX7_isGiven_4 M) fuel) (nI q) v (nI x) = fX7_isGiven_26 M (lf3 (fX7_isGiven_4 M) fuel) (nI q) (nI x) from by
        unfold fX7_isGiven_4
        rw [hnl.2, if_neg (nI_ge (by omega) (by omega)), if_neg hv0]]
      rfl
theorem ok_give : st_give (uR n) (uR (n + 1)) := by
  rintro Z M ⟨S, C, E, P, h⟩ a1 a2
  have hnl := h.nl.1
  have hnp := h.np.1
  rcases uIx_or a1 (n := Z.2.2 1) (by omega) with ⟨k, hk, rfl⟩ | hf
  · rcases uIx_or a2 (n := Z.2.2 0) (by omega) with ⟨q, hq, rfl⟩ | hf
    · obtain ⟨w, w1, w2, w3⟩ := m_isGiven h (show q < 6 by omega) (Z.2.2 1) 0 100 0 (by omega) (by omega) (Or.inl rfl)
      have w1' : fX7_isGiven (nI q) M = some w := w1
      have w3' : w = 1 ↔ ∃ i, i < Z.2.2 1 ∧ Z.2.1 9 i 2 = some q := by
        rw [w3]
        exact ⟨fun z => z.elim (fun e => absurd e (by decide)) (fun ⟨i, _, i2, i3⟩ => ⟨i, i2, i3⟩), fun ⟨i, i2, i3⟩ => Or.inr ⟨i, by omega, i2, i3⟩⟩
      obtain ⟨r1, r2, r3, r4, r5, r6, r7, r8, r9, r10⟩ := h
      have h' : uRR n Z M S C E P := ⟨r1, r2, r3, r4, r5, r6, r7, r8, r9, r10⟩
      obtain ⟨o1, o2, o3⟩ := r6
      have m12 := (o1 k hk).1
      rcases hq1 : Z.2.1 9 k 2 with _ | q1
      · rw [hq1, oi_n] at m12
        rcases o3 q hq with ⟨x1, x2⟩ | ⟨x1, x2⟩
        · have hw : w = 1 := w3'.mpr x2
          refine sV_err (cd := 3) (j := 1) ⟨S, C, E, P, h'⟩ ?_ ?_ rfl rfl
          · unfold fX7_give
            rw [h'.isPlayer hk, cl1_s, if_neg (by decide), h'.isPan hq, cl1_s, if_neg (by decide)]
            unfold fX7_give_21
            rw [if_neg (by decide), gdn (by omega) (by omega), nIc (by omega), if_pos m12, w1', cl1_s, hw, if_neg (by decide)]
            rfl
          · unfold fX6_give
            rw [h'.playerAt hk, cx1_l, h'.panAt hq, cx1_l, cLv9 hk, gdt, hq1, op2_n, cLv5 hq, gdt, x1, if_neg (by decide)]
            rfl
        · have hw : w = 0 := w2.resolve_right (fun e => by
            obtain ⟨i, i1, i2⟩ := w3'.mp e
            exact x2 i i1 i2)
          refine ⟨va_up (va_up M 0 (fun _ => 0)) 12 (upd (M 12) k (nI q)), cuI (cuR Z 9 k (va_up (Z.2.1 9 k) 2 (some q))) 5 q (upd (Z.1 5 q) 4 1), ?_, uR.intro (S) (C) (E) (P) ⟨r1, ?_, r3, r4, r5, ⟨fun i hi => ?_, fun i i' q' hi hi' e e' => ?_, fun q' hq' => ?_⟩, r7, r8, r9, r10⟩, Or.inl ⟨?_, rfl⟩⟩
          · unfold fX7_give
            rw [h'.isPlayer hk, cl1_s, if_neg (by decide), h'.isPan hq, cl1_s, if_neg (by decide)]
            unfold fX7_give_21
            rw [if_neg (by decide), gdn (by omega) (by omega), nIc (by omega), if_pos m12, w1', cl1_s, hw, if_pos (by decide)]
            unfold fX7_give_54
            rw [m_holds_0, cl2_s, if_neg (by decide), gdn (by omega) (by omega), bnd_e, nIc (by omega)]
            rfl
          · obtain ⟨t1, t2, t3, t4⟩ := r2
            refine ⟨t1, t2, fun i hi => ?_, t4⟩
            by_cases e : i = q
            · subst e
              rw [cuI_s]
              exact t3 i hi
            · rw [cuI_n (fun z => e z.2)]
              exact t3 i hi
          · show upd (M 12) k (nI q) i = oi ((cuR Z 9 k (va_up (Z.2.1 9 k) 2 (some q))).2.1 9 i 2) ∧ ∀ q', (cuR Z 9 k (va_up (Z.2.1 9 k) 2 (some q))).2.1 9 i 2 = some q' → q' < Z.2.2 0
            by_cases e : i = k
            · subst e
              rw [cuR_s, vu_s, pk_us]
              exact ⟨rfl, fun q' z => by cases z; exact hq⟩
            · rw [cuR_n (fun z => e z.2), pk_un e]
              exact o1 i hi
          · have w : ∀ i q', (cuR Z 9 k (va_up (Z.2.1 9 k) 2 (some q))).2.1 9 i 2 = some q' → (i = k ∧ q' = q) ∨ Z.2.1 9 i 2 = some q' := fun i q' e => by
              by_cases ek : i = k
              · subst ek
                rw [cuR_s, vu_s] at e
                cases e
                exact Or.inl ⟨rfl, rfl⟩
              · rw [cuR_n (fun z => ek z.2)] at e
                exact Or.inr e
            rcases w _ _ e with ⟨y1, y2⟩ | y
            · rcases w _ _ e' with ⟨z1, _⟩ | z
              · rw [y1, z1]
              · rw [y2] at z
                exact absurd z (x2 i' hi')
            · rcases w _ _ e' with ⟨z1, z2⟩ | z
              · rw [z2] at y
                exact absurd y (x2 i hi)
              · exact o2 i i' q' hi hi' y z
          · have w : ∀ i, i ≠ k → (cuR Z 9 k (va_up (Z.2.1 9 k) 2 (some q))).2.1 9 i 2 = Z.2.1 9 i 2 := fun i e => by rw [cuR_n (fun z => e z.2)]
            have wk : (cuR Z 9 k (va_up (Z.2.1 9 k) 2 (some q))).2.1 9 k 2 = some q := by rw [cuR_s, vu_s]
            show ((cuI (cuR Z 9 k (va_up (Z.2.1 9 k) 2 (some q))) 5 q (upd (Z.1 5 q) 4 1)).1 5 q' 4 = 1 ∧ ∃ i, i < Z.2.2 1 ∧ (cuR Z 9 k (va_up (Z.2.1 9 k) 2 (some q))).2.1 9 i 2 = some q') ∨ ((cuI (cuR Z 9 k (va_up (Z.2.1 9 k) 2 (some q))) 5 q (upd (Z.1 5 q) 4 1)).1 5 q' 4 = 0 ∧ ∀ i, i < Z.2.2 1 → (cuR Z 9 k (va_up (Z.2.1 9 k) 2 (some q))).2.1 9 i 2 ≠ some q')
            by_cases eq : q' = q
            · subst eq
              rw [cuI_s, pk_us]
              exact Or.inl ⟨rfl, k, hk, wk⟩
            · rw [cuI_n (fun z => eq z.2)]
              rcases o3 q' hq' with ⟨y1, i, y2, y3⟩ | ⟨y1, y2⟩
              · refine Or.inl ⟨y1, i, y2, ?_⟩
                rw [w i (fun ek => by subst ek; rw [hq1] at y3; cases y3)]
                exact y3
              · refine Or.inr ⟨y1, fun i hi => ?_⟩
                by_cases ek : i = k
                · subst ek
                  rw [wk]
                  exact fun z => by cases z; exact eq rfl
                · rw [w i ek]
                  exact y2 i hi
          · unfold fX6_give
            rw [h'.playerAt hk, cx1_l, h'.panAt hq, cx1_l, cLv9 hk, gdt, hq1, op2_n, cLv5 hq, gdt, x1, if_pos (by decide)]
            unfold fX6_give_33
            have h5 : cLv (cuR Z 9 k (va_up (Z.2.1 9 k) 2 (some q))).2.2 5 q = true := cLv5 hq
            rw [c_rs_1, cx1_l, cLv9 hk, gdt, bnd_e, h5, gdt, bnd_e]
            rfl
      · have hqp := (o1 k hk).2 q1 hq1
        rw [hq1, oi_s] at m12
        refine sV_err (cd := 3) (j := 1) ⟨S, C, E, P, h'⟩ ?_ ?_ rfl rfl
        · unfold fX7_give
          rw [h'.isPlayer hk, cl1_s, if_neg (by decide), h'.isPan hq, cl1_s, if_neg (by decide)]
          unfold fX7_give_21
          rw [if_neg (by decide), gdn (by omega) (by omega), nIc (by omega), m12, if_neg (by rw [nIm1 (by omega)]; exact id)]
          rfl
        · unfold fX6_give
          rw [h'.playerAt hk, cx1_l, h'.panAt hq, cx1_l, cLv9 hk, gdt, hq1, op2_s]
          rfl
    · refine sV_err (cd := 1) (j := 0) ⟨S, C, E, P, h⟩ ?_ ?_ rfl rfl
      · unfold fX7_give
        rw [h.isPlayer hk, cl1_s, if_neg (by decide), h.isPanF hf, cl1_s, if_pos (by decide)]
        rfl
      · unfold fX6_give
        rw [h.playerAt hk, cx1_l, h.panAtF hf, cx1_r]
  · refine sV_err (cd := 1) (j := 0) ⟨S, C, E, P, h⟩ ?_ ?_ rfl rfl
    · unfold fX7_give
      rw [h.isPlayerF hf, cl1_s, if_pos (by decide)]
      rfl
    · unfold fX6_give
      rw [h.playerAtF hf, cx1_r]
end URM
