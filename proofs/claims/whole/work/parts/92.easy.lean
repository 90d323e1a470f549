/-! PURE PART. The calls that only read, and those that write a place or two. -/
section URE
variable {n : Nat} {Z : CZ} {M : MT} {S C : Nat → Nat} {E P : Nat → Nat → Nat}
theorem sI_err {fc : Option ((Int32 ⊕ Int32) × CZ)} {fm : Option (Int32 × MT)} {hs : List Int32} {M' : MT} (h : uR n Z M') {t cd : Int32} {j : Nat} (hm : fm = some (0, va_up M' 0 (fun _ => t))) (hc : fc = some (.inr cd, Z)) (hj : hs[j]? = some cd) (ht : t = nI (j + 1)) : stepI fc fm hs (uR (n + 1)) := ⟨0, _, Z, hm, h.thr _, Or.inr ⟨j, cd, hc, hj, ht⟩⟩
theorem sR_err {fc : Option (Int32 ⊕ Int32)} {fm : Option (Int32 × MT)} {hs : List Int32} {M' : MT} (h : uR n Z M') {t cd : Int32} {j : Nat} (hm : fm = some (0, va_up M' 0 (fun _ => t))) (hc : fc = some (.inr cd)) (hj : hs[j]? = some cd) (ht : t = nI (j + 1)) : stepR fc Z fm hs (uR (n + 1)) := ⟨0, _, hm, h.thr _, Or.inr ⟨j, cd, hc, hj, ht⟩⟩
theorem sV_err {fc : Option ((Unit ⊕ Int32) × CZ)} {fm : Option MT} {hs : List Int32} {M' : MT} (h : uR n Z M') {t cd : Int32} {j : Nat} (hm : fm = some (va_up M' 0 (fun _ => t))) (hc : fc = some (.inr cd, Z)) (hj : hs[j]? = some cd) (ht : t = nI (j + 1)) : stepV fc fm hs (uR (n + 1)) := ⟨_, Z, hm, h.thr _, Or.inr ⟨j, cd, hc, hj, ht⟩⟩
theorem ok_heat : st_heat (uR n) (uR (n + 1)) := by
  rintro Z M ⟨S, C, E, P, h⟩ a1
  rcases rg_or a1 0 15 with ⟨h1, h2⟩ | hf
  · obtain ⟨k, _, hk, rfl⟩ := rg_nI (b := 0) (c := 15) (by omega) (by omega) h1 h2
    obtain ⟨⟨e5, e6, eh, et⟩, r⟩ := h
    refine ⟨M 2 0, va_up (va_up M 0 (fun _ => 0)) 2 (fun _ => nI k), cuI Z 0 0 (upd (Z.1 0 0) 5 (nI k)), ?_, uR.intro (S) (C) (E) (P) ⟨⟨rfl, e6, ⟨k, hk, rfl⟩, et⟩, r⟩, Or.inl ⟨?_, rfl⟩⟩
    · unfold fX7_heat
      rw [m_isIn_t h1 h2]
      rfl
    · unfold fX6_heat
      rw [c_rr_t h1 h2, cx1_l, bnd_e, bnd_e, e5]
  · refine sI_err (cd := 2) (j := 0) ⟨S, C, E, P, h⟩ ?_ ?_ rfl rfl
    · unfold fX7_heat
      rw [m_isIn_f hf]
      rfl
    · unfold fX6_heat
      rw [c_rr_f hf]
      rfl
theorem ok_pass : st_pass (uR n) (uR (n + 1)) := by
  rintro Z M ⟨S, C, E, P, h⟩ a1
  rcases rg_or a1 1 30 with ⟨h1, h2⟩ | hf
  · obtain ⟨k, hk1, hk, rfl⟩ := rg_nI (b := 1) (c := 30) (by omega) (by omega) h1 h2
    have h' := h
    obtain ⟨⟨e5, e6, eh, t, ht, hm1⟩, r⟩ := h
    have es : M 1 0 + nI k = nI (t + k) := by rw [hm1, nI_add]
    by_cases hc : t + k ≤ 1000
    · have hle : nI (t + k) ≤ (1000 : Int32) := nI_le (b := 1000) hc (by omega)
      refine ⟨nI (t + k), va_up (va_up M 0 (fun _ => 0)) 1 (fun _ => nI (t + k)), cuI Z 0 0 (upd (Z.1 0 0) 6 (nI (t + k))), ?_, uR.intro (S) (C) (E) (P) ⟨⟨e5, rfl, eh, t + k, hc, rfl⟩, r⟩, Or.inl ⟨?_, rfl⟩⟩
      · unfold fX7_pass
        rw [m_isIn_t h1 h2, cl1_s, if_neg (by decide), es, if_pos hle]
        unfold fX7_pass_32
        rw [m_holds_0, cl2_s, if_neg (by decide)]
        show some (M 1 0 + nI k, va_up (va_up M 0 (fun _ => 0)) 1 (fun _ => M 1 0 + nI k)) = _
        rw [es]
      · unfold fX6_pass
        rw [c_rr_t h1 h2, cx1_l, e6, es, if_neg (Int32.not_lt.mpr hle)]
        unfold fX6_pass_24
        rw [c_rs_1, cx1_l, e6, es]
        rfl
    · have hle : ¬ nI (t + k) ≤ (1000 : Int32) := nI_ge (a := 1000) (by omega) (by omega)
      refine sI_err (cd := 3) (j := 1) ⟨S, C, E, P, h'⟩ ?_ ?_ rfl rfl
      · unfold fX7_pass
        rw [m_isIn_t h1 h2, cl1_s, if_neg (by decide), es, if_neg hle]
        rfl
      · unfold fX6_pass
        rw [c_rr_t h1 h2, cx1_l, e6, es, if_pos (Int32.not_le.mp hle)]
        rfl
  · refine sI_err (cd := 2) (j := 0) ⟨S, C, E, P, h⟩ ?_ ?_ rfl rfl
    · unfold fX7_pass
      rw [m_isIn_f hf]
      rfl
    · unfold fX6_pass
      rw [c_rr_f hf]
      rfl
theorem ok_night : st_night (uR n) (uR (n + 1)) := by
  rintro Z M ⟨S, C, E, P, h⟩
  refine ⟨M 1 0, va_up M 0 (fun _ => 0), ?_, rfl, ⟨S, C, E, P, h.up⟩⟩
  unfold fX6_night
  rw [h.1.2.1]
theorem ok_seat : st_seat (uR n) (uR (n + 1)) := by
  rintro Z M ⟨S, C, E, P, h⟩ a1 a2
  rcases uIx_or a1 (n := 4) (by omega) with ⟨b, hb, rfl⟩ | hf
  · have hS := (h.nS hb).1
    rcases uIx_or a2 (n := S b) (by omega) with ⟨k, hk, rfl⟩ | hf
    · obtain ⟨h1, h2, h3, h4⟩ := h.2.2.2.2.2.2.1.2.1 b k hb hk
      refine ⟨nI (P b k), va_up M 0 (fun _ => 0), ?_, ⟨S, C, E, P, h.up⟩, Or.inl ⟨?_, rfl⟩⟩
      · unfold fX7_seat
        rw [h.isSeat hb hk, cl1_s, if_neg (by decide)]
        unfold fX7_seat_15
        rw [m_holds_0, cl2_s, if_neg (by decide), u_l8, nI_add, gdn (by omega) (by omega), nIc (by omega)]
        show some (M 16 (8 * b + k), _) = _
        rw [h4]
      · unfold fX6_seat
        rw [h.bandAt hb, cx1_l, h.seatAt hb hk, cx1_l, cLv13 h1, gdt, h3, cl1_s, cLv9 h2, gdt, (h.2.2.2.2.1.2.2 _ h2).1]
    · refine sR_err (cd := 1) (j := 0) ⟨S, C, E, P, h⟩ ?_ ?_ rfl rfl
      · unfold fX7_seat
        rw [h.isSeatF hb hf]
        rfl
      · unfold fX6_seat
        rw [h.bandAt hb, cx1_l, h.seatAtF hb hf, cx1_r]
  · refine sR_err (cd := 1) (j := 0) ⟨S, C, E, P, h⟩ ?_ ?_ rfl rfl
    · unfold fX7_seat
      rw [m_isSeatF hf]
      rfl
    · unfold fX6_seat
      rw [h.bandAtF hf, cx1_r]
theorem m_at (b k j : Nat) (M : MT) : fX7_at (nI b) (nI k) (nI j) M = some (nI (6 * (8 * b + k) + j)) := by
  unfold fX7_at
  rw [u_l8, nI_add, u_l6, nI_add]
theorem ok_knows : st_knows (uR n) (uR (n + 1)) := by
  rintro Z M ⟨S, C, E, P, h⟩ a1 a2 a3
  rcases uIx_or a1 (n := 4) (by omega) with ⟨b, hb, rfl⟩ | hf
  · have hS := (h.nS hb).1
    have hC := (h.nC hb).1
    rcases uIx_or a2 (n := S b) (by omega) with ⟨k, hk, rfl⟩ | hf
    · rcases uIx_or a3 (n := C b / 4) (by omega) with ⟨j, hj, rfl⟩ | hf
      · obtain ⟨h1, h2, h3, h4⟩ := h.2.2.2.2.2.2.1.2.1 b k hb hk
        obtain ⟨g1, g2⟩ := h.2.2.2.2.2.2.2.2.1 b k j hb hk (by omega)
        refine ⟨M 19 (6 * (8 * b + k) + j), va_up M 0 (fun _ => 0), ?_, ⟨S, C, E, P, h.up⟩, Or.inl ⟨?_, rfl⟩⟩
        · unfold fX7_knows
          rw [h.isSeat hb hk, cl1_s, if_neg (by decide), h.isPhrase hb hj, cl1_s, if_neg (by decide)]
          unfold fX7_knows_24
          rw [m_holds_0, cl2_s, if_neg (by decide), m_at, cl1_s, gdn (by omega) (by omega), nIc (by omega)]
          rfl
        · unfold fX6_knows
          rw [h.bandAt hb, cx1_l, h.seatAt hb hk, cx1_l, cx1_l, h.phr hb hj, cx1_l, cLv13 h1, gdt, gdn (by omega) (by omega), nIc (by omega), g1]
      · refine sR_err (cd := 1) (j := 0) ⟨S, C, E, P, h⟩ ?_ ?_ rfl rfl
        · unfold fX7_knows
          rw [h.isSeat hb hk, cl1_s, if_neg (by decide), h.isPhraseF hb hf, cl1_s, if_pos (by decide)]
          rfl
        · unfold fX6_knows
          rw [h.bandAt hb, cx1_l, h.seatAt hb hk, cx1_l, cx1_l, h.phrF hb hf, cx1_r]
    · refine sR_err (cd := 1) (j := 0) ⟨S, C, E, P, h⟩ ?_ ?_ rfl rfl
      · unfold fX7_knows
        rw [h.isSeatF hb hf, cl1_s, if_pos (by decide)]
        rfl
      · unfold fX6_knows
        rw [h.bandAt hb, cx1_l, h.seatAtF hb hf, cx1_r]
  · refine sR_err (cd := 1) (j := 0) ⟨S, C, E, P, h⟩ ?_ ?_ rfl rfl
    · unfold fX7_knows
      rw [m_isSeatF hf, cl1_s, if_pos (by decide)]
      rfl
    · unfold fX6_knows
      rw [h.bandAtF hf, cx1_r]
theorem uR9.set {z14 z' : Nat → Nat → Int32} {m19 m' : Nat → Int32} (h : uR9 S E z14 m19) (hi : ∀ b k b' k', b < 4 → k < S b → b' < 4 → k' < S b' → E b k = E b' k' → b = b' ∧ k = k') (h8 : ∀ b, b < 4 → S b ≤ 8) {b k j : Nat} (hb : b < 4) (hk : k < S b) (hj : j < 6) {v : Int32} (hv : v = 0 ∨ v = 1 ∨ v = 2) (z1 : z' (E b k) j = v) (z2 : ∀ e f, ¬ (e = E b k ∧ f = j) → z' e f = z14 e f) (m1 : m' (6 * (8 * b + k) + j) = v) (m2 : ∀ i, i ≠ 6 * (8 * b + k) + j → m' i = m19 i) : uR9 S E z' m' := by
  intro b' k' j' hb' hk' hj'
  have g := h8 b hb
  have g' := h8 b' hb'
  by_cases hs : b' = b ∧ k' = k ∧ j' = j
  · obtain ⟨rfl, rfl, rfl⟩ := hs
    rw [z1, m1]
    exact ⟨rfl, hv⟩
  · rw [z2 _ _ (fun q => hs (by
      obtain ⟨q1, q2⟩ := hi _ _ _ _ hb' hk' hb hk q.1
      exact ⟨q1, q2, q.2⟩)), m2 _ (by omega)]
    exact h b' k' j' hb' hk' hj'
theorem uRR.h8 (h : uRR n Z M S C E P) : ∀ b, b < 4 → S b ≤ 8 := fun b hb => (h.nS hb).1
theorem uRR.inj (h : uRR n Z M S C E P) : ∀ b k b' k', b < 4 → k < S b → b' < 4 → k' < S b' → E b k = E b' k' → b = b' ∧ k = k' := h.2.2.2.2.2.2.1.2.2.2.1
theorem ok_tell : st_tell (uR n) (uR (n + 1)) := by
  rintro Z M ⟨S, C, E, P, h⟩ a1 a2 a3
  rcases uIx_or a1 (n := 4) (by omega) with ⟨b, hb, rfl⟩ | hf
  · have hS := (h.nS hb).1
    have hC := (h.nC hb).1
    rcases uIx_or a2 (n := S b) (by omega) with ⟨k, hk, rfl⟩ | hf
    · rcases uIx_or a3 (n := C b / 4) (by omega) with ⟨j, hj, rfl⟩ | hf
      · obtain ⟨h1, h2, h3, h4⟩ := h.2.2.2.2.2.2.1.2.1 b k hb hk
        obtain ⟨g1, g2⟩ := h.2.2.2.2.2.2.2.2.1 b k j hb hk (by omega)
        have h9 : uR9 S E ((cuI Z 14 (E b k) (upd (Z.1 14 (E b k)) j 1)).1 14) (va_up M 19 (upd (M 19) (6 * (8 * b + k) + j) 1) 19) := h.2.2.2.2.2.2.2.2.1.set h.inj h.h8 hb hk (show j < 6 by omega) (v := 1) (Or.inr (Or.inl rfl)) (by rw [cuI_s]; exact pk_us) (fun e f q => by
          by_cases he : e = E b k
          · subst he
            rw [cuI_s]
            exact pk_un (fun q2 => q ⟨rfl, q2⟩)
          · rw [cuI_n (fun q2 => he q2.2)]) (by rw [vu_s]; exact pk_us) (fun i q => by rw [vu_s]; exact pk_un q)
        obtain ⟨r1, r2, r3, r4, r5, r6, r7, r8, r9, r10⟩ := h
        have h' : uRR n Z M S C E P := ⟨r1, r2, r3, r4, r5, r6, r7, r8, r9, r10⟩
        refine ⟨M 19 (6 * (8 * b + k) + j), va_up (va_up M 0 (fun _ => 0)) 19 (upd (M 19) (6 * (8 * b + k) + j) 1), cuI Z 14 (E b k) (upd (Z.1 14 (E b k)) j 1), ?_, uR.intro (S) (C) (E) (P) ⟨r1, r2, r3, r4, r5, r6, r7, r8, h9, r10⟩, Or.inl ⟨?_, rfl⟩⟩
        · unfold fX7_tell
          rw [h'.isSeat hb hk, cl1_s, if_neg (by decide), h'.isPhrase hb hj, cl1_s, if_neg (by decide)]
          unfold fX7_tell_24
          rw [m_holds_0, cl2_s, if_neg (by decide), m_at, cl1_s, gdn (by omega) (by omega), bnd_e, cl1_s, gdn (by omega) (by omega), bnd_e, nIc (by omega)]
          rfl
        · unfold fX6_tell
          rw [h'.bandAt hb, cx1_l, h'.seatAt hb hk, cx1_l, cx1_l, h'.phr hb hj, cx1_l, cLv13 h1, gdt, gdn (by omega) (by omega), bnd_e, gdn (by omega) (by omega), bnd_e, nIc (by omega), g1]
      · refine sI_err (cd := 1) (j := 0) ⟨S, C, E, P, h⟩ ?_ ?_ rfl rfl
        · unfold fX7_tell
          rw [h.isSeat hb hk, cl1_s, if_neg (by decide), h.isPhraseF hb hf, cl1_s, if_pos (by decide)]
          rfl
        · unfold fX6_tell
          rw [h.bandAt hb, cx1_l, h.seatAt hb hk, cx1_l, cx1_l, h.phrF hb hf, cx1_r]
    · refine sI_err (cd := 1) (j := 0) ⟨S, C, E, P, h⟩ ?_ ?_ rfl rfl
      · unfold fX7_tell
        rw [h.isSeatF hb hf, cl1_s, if_pos (by decide)]
        rfl
      · unfold fX6_tell
        rw [h.bandAt hb, cx1_l, h.seatAtF hb hf, cx1_r]
  · refine sI_err (cd := 1) (j := 0) ⟨S, C, E, P, h⟩ ?_ ?_ rfl rfl
    · unfold fX7_tell
      rw [m_isSeatF hf, cl1_s, if_pos (by decide)]
      rfl
    · unfold fX6_tell
      rw [h.bandAtF hf, cx1_r]
theorem ok_ofBand : st_ofBand (uR n) (uR (n + 1)) := by
  rintro Z M ⟨S, C, E, P, h⟩ a1 a2
  rcases uIx_or a1 (n := 4) (by omega) with ⟨b, hb, rfl⟩ | hf
  · have hS := (h.nS hb).1
    have hC := (h.nC hb).1
    rcases rg_or a2 0 4 with ⟨h1, h2⟩ | hf
    · obtain ⟨k, _, hk, rfl⟩ := rg_nI (b := 0) (c := 4) (by omega) (by omega) h1 h2
      obtain ⟨g1, g2, g3⟩ := h.2.2.2.2.2.2.2.2.2.2.1 b hb
      have em : ∀ v, (∀ M' : MT, M' = va_up M 0 (fun _ => 0) → fX7_ofBand_26 (nI b) (nI k) 0 M = some (v, M')) → fX7_ofBand (nI b) (nI k) M = some (v, va_up M 0 (fun _ => 0)) := fun v hv => by
        unfold fX7_ofBand
        rw [m_isBand hb, cl1_s, if_neg (by decide), m_isIn_t h1 h2, cl1_s, if_neg (by decide)]
        exact hv _ rfl
      have ec : ∀ v, (fX6_ofBand (nI b) (nI k) Z = some (.inl v)) → fX7_ofBand (nI b) (nI k) M = some (v, va_up M 0 (fun _ => 0)) → stepR (fX6_ofBand (nI b) (nI k) Z) Z (fX7_ofBand (nI b) (nI k) M) [1, 2] (uR (n + 1)) := fun v q1 q2 => ⟨v, _, q2, ⟨S, C, E, P, h.up⟩, Or.inl ⟨q1, rfl⟩⟩
      have es : fX7_ofBand_26 (nI b) (nI k) 0 M = (fun v5 M6 => (if v5 = 0 then some ((0 : Int32), M6) else (if (3 : Int32) ≤ nI k then (if nI k = (3 : Int32) then gd (gin (nI b) 4) ((if (M6 22 (Int32.toNatClampNeg (nI b))) = 0 then fX7_ofBand_120 (-1 : Int32) M6 else gd (gin (nI b) 4) (fX7_ofBand_120 (M6 23 (Int32.toNatClampNeg (nI b))) M6))) else gd (gin (nI b) 4) ((if (M6 21 (Int32.toNatClampNeg (nI b))) = (M6 1 0) then fX7_ofBand_120 (1 : Int32) M6 else fX7_ofBand_120 (0 : Int32) M6))) else (if nI k = 0 then gd (gin (nI b) 4) (fX7_ofBand_74 (M6 15 (Int32.toNatClampNeg (nI b))) M6) else (if nI k = (1 : Int32) then gd (gin (nI b) 4) (fX7_ofBand_74 (M6 17 (Int32.toNatClampNeg (nI b))) M6) else gd (gin (nI b) 4) (fX7_ofBand_74 ((M6 17 (Int32.toNatClampNeg (nI b))) / (4 : Int32)) M6)))))) (1 : Int32) (va_up M 0 (fun _ => 0)) := rfl
      have hk5 : k = 0 ∨ k = 1 ∨ k = 2 ∨ k = 3 ∨ k = 4 := by omega
      rcases hk5 with rfl | rfl | rfl | rfl | rfl
      · refine ec (nI (S b)) ?_ (em _ (fun M' e => ?_))
        · unfold fX6_ofBand
          rw [h.bandAt hb, cx1_l, c_rr_t h1 h2, cx1_l, if_pos (by decide), cLv10 hb, gdt, cLv3 (show b + 4 < 8 by omega), gdt, (h.ls4 hb).size (by omega)]
          rfl
        · rw [es, e]
          show gd (gin (nI b) 4) (fX7_ofBand_74 (M 15 (nI b).toNatClampNeg) (va_up M 0 (fun _ => 0))) = _
          rw [gdn hb (by omega), nIc (by omega), (h.nS hb).2]
          rfl
      · refine ec (nI (C b)) ?_ (em _ (fun M' e => ?_))
        · unfold fX6_ofBand
          rw [h.bandAt hb, cx1_l, c_rr_t h1 h2, cx1_l, if_neg (by decide), if_pos (by decide), cLv10 hb, gdt, (h.nC hb).2.2]
        · rw [es, e]
          show gd (gin (nI b) 4) (fX7_ofBand_74 (M 17 (nI b).toNatClampNeg) (va_up M 0 (fun _ => 0))) = _
          rw [gdn hb (by omega), nIc (by omega), (h.nC hb).2.1]
          rfl
      · refine ec (nI (C b / 4)) ?_ (em _ (fun M' e => ?_))
        · unfold fX6_ofBand
          rw [h.bandAt hb, cx1_l, c_rr_t h1 h2, cx1_l, if_neg (by decide), if_neg (by decide), if_pos (by decide), cLv10 hb, gdt, h.phc hb]
          rfl
        · rw [es, e]
          show gd (gin (nI b) 4) (fX7_ofBand_74 (M 17 (nI b).toNatClampNeg / 4) (va_up M 0 (fun _ => 0))) = _
          rw [gdn hb (by omega), nIc (by omega), (h.nC hb).2.1, u_d4 (by omega)]
          rfl
      · refine ec (Z.1 10 b 5) ?_ (em _ (fun M' e => ?_))
        · unfold fX6_ofBand
          rw [h.bandAt hb, cx1_l, c_rr_t h1 h2, cx1_l, if_neg (by decide), if_neg (by decide), if_neg (by decide), if_pos (by decide), cLv10 hb, gdt]
        · rw [es, e]
          show gd (gin (nI b) 4) (if M 22 (nI b).toNatClampNeg = 0 then fX7_ofBand_120 (-1) (va_up M 0 (fun _ => 0)) else gd (gin (nI b) 4) (fX7_ofBand_120 (M 23 (nI b).toNatClampNeg) (va_up M 0 (fun _ => 0)))) = _
          rw [gdn hb (by omega), gdn hb (by omega), nIc (by omega)]
          rcases g3 with ⟨q1, q2, _⟩ | ⟨q1, q2, q3⟩
          · rw [if_pos q1, q2]
            rfl
          · rw [if_neg (by rw [q1]; decide), q2]
            rfl
      · refine ec (if M 21 b = M 1 0 then 1 else 0) ?_ (em _ (fun M' e => ?_))
        · unfold fX6_ofBand
          rw [h.bandAt hb, cx1_l, c_rr_t h1 h2, cx1_l, if_neg (by decide), if_neg (by decide), if_neg (by decide), if_neg (by decide), cLv10 hb, gdt, g1, h.1.2.1]
          split <;> rfl
        · rw [es, e]
          show gd (gin (nI b) 4) (if M 21 (nI b).toNatClampNeg = M 1 0 then fX7_ofBand_120 1 (va_up M 0 (fun _ => 0)) else fX7_ofBand_120 0 (va_up M 0 (fun _ => 0))) = _
          rw [gdn hb (by omega), nIc (by omega)]
          split <;> rfl
    · refine sR_err (cd := 2) (j := 1) ⟨S, C, E, P, h⟩ ?_ ?_ rfl rfl
      · unfold fX7_ofBand
        rw [m_isBand hb, cl1_s, if_neg (by decide), m_isIn_f hf]
        rfl
      · unfold fX6_ofBand
        rw [h.bandAt hb, cx1_l, c_rr_f hf, cx1_r]
  · refine sR_err (cd := 1) (j := 0) ⟨S, C, E, P, h⟩ ?_ ?_ rfl rfl
    · unfold fX7_ofBand
      rw [m_isBandF hf, cl1_s, if_pos (by decide)]
      rfl
    · unfold fX6_ofBand
      rw [h.bandAtF hf, cx1_r]
end URE
