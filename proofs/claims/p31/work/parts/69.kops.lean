/-! PURE PART. What each call that writes does. -/
section URW9
variable {n : Nat} {Z : CZ} {M : MT} {S C : Nat → Nat} {E P : Nat → Nat → Nat}
theorem k_heat (h : uRR n Z M S C E P) {k : Nat} (hk : k ≤ 15) : ∃ Z', uRR n Z' (va_up M 2 (fun _ => nI k)) S C E P ∧ Z'.2 = Z.2 ∧ fX6_heat (nI k) Z = some (.inl (M 2 0), Z') := by
  have hr := rr_t (b := 0) (c := 15) (by omega) hk (by omega)
  obtain ⟨⟨e5, e6, eh, et⟩, r⟩ := h
  refine ⟨cuI Z 0 0 (upd (Z.1 0 0) 5 (nI k)), ⟨⟨rfl, e6, ⟨k, hk, rfl⟩, et⟩, r⟩, rfl, ?_⟩
  unfold fX6_heat
  rw [c_rr_t (b := 0) (c := 15) hr.1 hr.2, cx1_l, bnd_e, bnd_e, e5]
theorem k_pass (h : uRR n Z M S C E P) {k t : Nat} (hk1 : 1 ≤ k) (hk : k ≤ 30) (ht : M 1 0 = nI t) (hc : t + k ≤ 1000) : ∃ Z', uRR n Z' (va_up M 1 (fun _ => nI (t + k))) S C E P ∧ Z'.2 = Z.2 ∧ fX6_pass (nI k) Z = some (.inl (nI (t + k)), Z') := by
  have hr := rr_t (b := 1) (c := 30) hk1 hk (by omega)
  obtain ⟨⟨e5, e6, eh, et⟩, r⟩ := h
  have es : M 1 0 + nI k = nI (t + k) := by rw [ht, nI_add]
  have hle : nI (t + k) ≤ (1000 : Int32) := nI_le (b := 1000) hc (by omega)
  refine ⟨cuI Z 0 0 (upd (Z.1 0 0) 6 (nI (t + k))), ⟨⟨e5, rfl, eh, t + k, hc, rfl⟩, r⟩, rfl, ?_⟩
  unfold fX6_pass
  rw [c_rr_t (b := 1) (c := 30) hr.1 hr.2, cx1_l, e6, es, if_neg (Int32.not_lt.mpr hle)]
  unfold fX6_pass_24
  rw [c_rs_1, cx1_l, e6, es]
  rfl
theorem k_tell (h : uRR n Z M S C E P) {b k j : Nat} (hb : b < 4) (hk : k < S b) (hj : j < C b / 4) : ∃ Z', uRR n Z' (va_up M 19 (upd (M 19) (6 * (8 * b + k) + j) 1)) S C E P ∧ Z'.2 = Z.2 ∧ fX6_tell (nI b) (nI k) (nI j) Z = some (.inl (M 19 (6 * (8 * b + k) + j)), Z') := by
  have hS := (h.nS hb).1
  have hC := (h.nC hb).1
  obtain ⟨h1, h2, h3, h4⟩ := h.2.2.2.2.2.2.1.2.1 b k hb hk
  obtain ⟨g1, g2⟩ := h.2.2.2.2.2.2.2.2.1 b k j hb hk (by omega)
  have h9 : uR9 S E ((cuI Z 14 (E b k) (upd (Z.1 14 (E b k)) j 1)).1 14) (va_up M 19 (upd (M 19) (6 * (8 * b + k) + j) 1) 19) := h.2.2.2.2.2.2.2.2.1.set h.inj h.h8 hb hk (show j < 6 by omega) (v := 1) (Or.inr (Or.inl rfl)) (by rw [cuI_s]; exact pk_us) (fun e f q => by
    by_cases he : e = E b k
    · subst he
      rw [cuI_s]
      exact pk_un (fun q2 => q ⟨rfl, q2⟩)
    · rw [cuI_n (fun q2 => he q2.2)]) (by rw [vu_s]; exact pk_us) (fun i q => by rw [vu_s]; exact pk_un q)
  have h' := h
  obtain ⟨r1, r2, r3, r4, r5, r6, r7, r8, r9, r10⟩ := h
  refine ⟨cuI Z 14 (E b k) (upd (Z.1 14 (E b k)) j 1), ⟨r1, r2, r3, r4, r5, r6, r7, r8, h9, r10⟩, rfl, ?_⟩
  unfold fX6_tell
  rw [h'.bandAt hb, cx1_l, h'.seatAt hb hk, cx1_l, cx1_l, h'.phr hb hj, cx1_l, cLv13 h1, gdt, gdn (by omega) (by omega), bnd_e, gdn (by omega) (by omega), bnd_e, nIc (by omega), g1]
theorem k_note_no (h : uRR n Z M S C E P) {b v : Nat} (hb : b < 4) (hv : v ≤ 11) (hc : C b = 24) : fX6_note (nI b) (nI v) Z = some (.inr 3, Z) := by
  obtain ⟨hC, hM, hZ⟩ := h.nC hb
  have hr := rr_t (b := 0) (c := 11) (by omega) hv (by omega)
  unfold fX6_note
  rw [h.bandAt hb, cx1_l, c_rr_t (b := 0) (c := 11) hr.1 hr.2, cx1_l, cLv10 hb, gdt, hZ, hc, if_pos (by decide)]
  rfl
theorem k_note (h : uRR n Z M S C E P) {b v : Nat} (hb : b < 4) (hv : v ≤ 11) (hc : ¬ C b = 24) : ∃ Z', uRR n Z' (va_up (va_up (va_up M 0 (fun _ => 0)) 18 (upd (M 18) (24 * b + C b) (nI v))) 17 (upd (M 17) b (nI (C b + 1)))) S (va_up C b (C b + 1)) E P ∧ Z'.2 = Z.2 ∧ fX6_note (nI b) (nI v) Z = some (.inl (nI (C b + 1)), Z') := by
  obtain ⟨hC, hM, hZ⟩ := h.nC hb
  have hr := rr_t (b := 0) (c := 11) (by omega) hv (by omega)
  have h1 : ¬ nI v < (0 : Int32) := hr.1
  have h2 : ¬ (11 : Int32) < nI v := hr.2
  obtain ⟨r1, r2, r3, r4, r5, r6, r7, r8, r9, r10, r11⟩ := h
  have h' : uRR n Z M S C E P := ⟨r1, r2, r3, r4, r5, r6, r7, r8, r9, r10, r11⟩
  have hne : ¬ (nI (C b) = (24 : Int32)) := fun e => hc ((nI_eq (b := 24) (by omega) (by omega)).mp e)
  have hle : ¬ ((24 : Int32) ≤ nI (C b)) := nI_ge (b := 24) (by omega) (by omega)
  refine ⟨cuI (cuI Z 11 b (upd (Z.1 11 b) (C b) (nI v))) 10 b (upd (Z.1 10 b) 3 (nI (C b + 1))), ⟨r1, r2, r3, r4, r5, r6, r7, r8, r9, ?_, ?_, r11.2⟩, rfl, ?_⟩
  · intro b' hb'
    obtain ⟨g1, g2, g3, g4⟩ := r10 b' hb'
    have hC' := (h'.nC hb').1
    by_cases hbb : b' = b
    · subst hbb
      refine ⟨by rw [vu_s]; omega, ?_, ?_, fun j hj => ?_⟩
      · show upd (M 17) b' (nI (C b' + 1)) b' = _
        rw [pk_us, vu_s]
      · rw [cuI_s, pk_us, vu_s]
      · show ((cuI Z 11 b' (upd (Z.1 11 b') (C b') (nI v))).1 11 b' j = upd (M 18) (24 * b' + C b') (nI v) (24 * b' + j)) ∧ ∃ w, w < 12 ∧ upd (M 18) (24 * b' + C b') (nI v) (24 * b' + j) = nI w
        rw [cuI_s]
        by_cases hjj : j = C b'
        · subst hjj
          rw [pk_us, pk_us]
          exact ⟨rfl, v, by omega, rfl⟩
        · rw [pk_un hjj, pk_un (by omega)]
          exact g4 j hj
    · refine ⟨by rw [vu_n hbb]; exact g1, ?_, ?_, fun j hj => ?_⟩
      · show upd (M 17) b (nI (C b + 1)) b' = _
        rw [pk_un hbb, vu_n hbb]
        exact g2
      · rw [cuI_n (fun q => hbb q.2), vu_n hbb]
        exact g3
      · show ((cuI Z 11 b (upd (Z.1 11 b) (C b) (nI v))).1 11 b' j = upd (M 18) (24 * b + C b) (nI v) (24 * b' + j)) ∧ ∃ w, w < 12 ∧ upd (M 18) (24 * b + C b) (nI v) (24 * b' + j) = nI w
        rw [cuI_n (fun q => hbb q.2), pk_un (by omega)]
        exact g4 j hj
  · intro b' hb'
    have g := r11.1 b' hb'
    by_cases hbb : b' = b
    · subst hbb
      rw [cuI_s]
      exact g
    · rw [cuI_n (fun q => hbb q.2)]
      exact g
  · unfold fX6_note
    rw [h'.bandAt hb, cx1_l, c_rr_t h1 h2, cx1_l, cLv10 hb, gdt, hZ, if_neg hle]
    unfold fX6_note_27
    rw [c_rs_1, cx1_l, cLv10 hb, gdt, hZ, gdn (by omega) (by omega), nIc (by omega), bnd_e, bnd_e]
    rw [cuI_s]
    show some (Sum.inl (upd (Z.1 10 b) 3 (Z.1 10 b 3 + 1) 3), cuI (cuI Z 11 b (upd (Z.1 11 b) (C b) (nI v))) 10 b (upd (Z.1 10 b) 3 (Z.1 10 b 3 + 1))) = _
    rw [hZ, u_a1, pk_us]
theorem k_mark (h : uRR n Z M S C E P) {b k v : Nat} (hb : b < 4) (hk : k < 5) (hv : v ≤ 100) : ((M 22 b = 0 ∨ M 26 (5 * b + k) ≠ -1) ∧ fX6_mark (nI b) (nI k) (nI v) Z = some (.inr 3, Z)) ∨ (M 22 b = 1 ∧ M 26 (5 * b + k) = -1 ∧ ∃ Z', uRR n Z' (va_up (va_up (va_up M 0 (fun _ => 0)) 26 (upd (M 26) (5 * b + k) (nI v))) 25 (upd (M 25) b (M 25 b + 1))) S C E P ∧ Z'.2 = Z.2 ∧ fX6_mark (nI b) (nI k) (nI v) Z = some (.inl (M 25 b + 1), Z')) := by
  have hr := rr_t (b := 0) (c := 100) (by omega) hv (by omega)
  have h1 : ¬ nI v < (0 : Int32) := hr.1
  have h2 : ¬ (100 : Int32) < nI v := hr.2
  obtain ⟨q1, q2⟩ := h.2.2.2.2.2.2.2.2.2.2.2 b hb
  obtain ⟨g1, g2, g3⟩ := h.2.2.2.2.2.2.2.2.2.2.1 b hb
  rcases g3 with ⟨p1, p2, _⟩ | ⟨p1, p2, hh, p3, p4⟩
  · refine Or.inl ⟨Or.inl p1, ?_⟩
    unfold fX6_mark
    rw [h.bandAt hb, cx1_l, c_ri_t5 hk, cx1_l, c_rr_t h1 h2, cx1_l, cLv10 hb, gdt, p2, if_pos (by decide)]
    rfl
  · by_cases hm : M 26 (5 * b + k) = -1
    · refine Or.inr ⟨p1, hm, ?_⟩
      obtain ⟨r1, r2, r3, r4, r5, r6, r7, r8, r9, r10, r11, r12⟩ := h
      have h' : uRR n Z M S C E P := ⟨r1, r2, r3, r4, r5, r6, r7, r8, r9, r10, r11, r12⟩
      have hset := umk_set hk hv hm
      have es : M 25 b + 1 = nI (umk (M 26) b 0 + umk (M 26) b 1 + umk (M 26) b 2 + umk (M 26) b 3 + umk (M 26) b 4 + 1) := by rw [q2, u_a1]
      have H : uRR n (cuI Z 12 b (upd (Z.1 12 b) k (nI v))) (va_up (va_up (va_up M 0 (fun _ => 0)) 26 (upd (M 26) (5 * b + k) (nI v))) 25 (upd (M 25) b (M 25 b + 1))) S C E P := by
        refine ⟨r1, r2, r3, r4, r5, r6, r7, r8, r9, r10, fun b' hb' => ?_, fun b' hb' => ?_⟩
        · obtain ⟨t1, t2, t3⟩ := r11 b' hb'
          refine ⟨t1, t2, ?_⟩
          show M 22 b' = 0 ∧ Z.1 10 b' 5 = -1 ∧ upd (M 25) b (M 25 b + 1) b' = 0 ∨ M 22 b' = 1 ∧ Z.1 10 b' 5 = M 23 b' ∧ ∃ h, h < 1000 ∧ M 23 b' = nI h
          by_cases hbb : b' = b
          · rw [hbb]
            exact Or.inr ⟨p1, p2, hh, p3, p4⟩
          · rw [pk_un hbb]
            exact t3
        obtain ⟨t1, t2⟩ := r12 b' hb'
        show (∀ j, j < 5 → (cuI Z 12 b (upd (Z.1 12 b) k (nI v))).1 12 b' j = upd (M 26) (5 * b + k) (nI v) (5 * b' + j) ∧ (upd (M 26) (5 * b + k) (nI v) (5 * b' + j) = -1 ∨ ∃ w, w ≤ 100 ∧ upd (M 26) (5 * b + k) (nI v) (5 * b' + j) = nI w)) ∧ upd (M 25) b (M 25 b + 1) b' = nI (umk (upd (M 26) (5 * b + k) (nI v)) b' 0 + umk (upd (M 26) (5 * b + k) (nI v)) b' 1 + umk (upd (M 26) (5 * b + k) (nI v)) b' 2 + umk (upd (M 26) (5 * b + k) (nI v)) b' 3 + umk (upd (M 26) (5 * b + k) (nI v)) b' 4)
        by_cases hbb : b' = b
        · subst hbb
          refine ⟨fun j hj => ?_, ?_⟩
          · rw [cuI_s]
            by_cases hjk : j = k
            · subst hjk
              rw [pk_us, pk_us]
              exact ⟨rfl, Or.inr ⟨v, hv, rfl⟩⟩
            · rw [pk_un hjk, pk_un (by omega)]
              exact t1 j hj
          · rw [hset, pk_us, es]
        · refine ⟨fun j hj => ?_, ?_⟩
          · rw [cuI_n (fun q => hbb q.2), pk_un (by omega)]
            exact t1 j hj
          · rw [pk_un hbb, umk_o (pk_un (by omega)), umk_o (pk_un (by omega)), umk_o (pk_un (by omega)), umk_o (pk_un (by omega)), umk_o (pk_un (by omega))]
            exact t2
      refine ⟨_, H, rfl, ?_⟩
      unfold fX6_mark
      rw [h'.bandAt hb, cx1_l, c_ri_t5 hk, cx1_l, c_rr_t h1 h2, cx1_l, cLv10 hb, gdt, p2, p4, if_neg (by rw [nIm1 (by omega)]; exact id), gdn hk (by omega), nIc (by omega), (q1 k hk).1, hm, if_pos (by decide)]
      unfold fX6_mark_44
      rw [c_rs_1, cx1_l, cLv10 hb, gdt, gdn hk (by omega), nIc (by omega), bnd_e, H.cm hb, cl1_s]
      show some (Sum.inl (upd (M 25) b (M 25 b + 1) b), _) = _
      rw [pk_us]
    · refine Or.inl ⟨Or.inr hm, ?_⟩
      unfold fX6_mark
      rw [h.bandAt hb, cx1_l, c_ri_t5 hk, cx1_l, c_rr_t h1 h2, cx1_l, cLv10 hb, gdt, p2, p4, if_neg (by rw [nIm1 (by omega)]; exact id), gdn hk (by omega), nIc (by omega), (q1 k hk).1, if_neg hm]
      rfl
theorem k_takeBack_no (h' : uRR n Z M S C E P) {k : Nat} (hk : k < Z.2.2 1) (hq : Z.2.1 9 k 2 = none) : fX6_takeBack (nI k) Z = some (.inr 3, Z) := by
  unfold fX6_takeBack
  rw [h'.playerAt hk, cx1_l, cLv9 hk, gdt, hq, op2_n]
theorem k_takeBack (h' : uRR n Z M S C E P) {k q : Nat} (hk : k < Z.2.2 1) (hq : Z.2.1 9 k 2 = some q) : ∃ Z', uRR n Z' (va_up (va_up M 0 (fun _ => 0)) 12 (upd (M 12) k (-1))) S C E P ∧ Z'.2.2 = Z.2.2 ∧ fX6_takeBack (nI k) Z = some (.inl (nI q), Z') := by
  have hnl := h'.nl.1
  have hnp := h'.np.1
  obtain ⟨r1, r2, r3, r4, r5, r6, r7, r8, r9, r10⟩ := id h'
  obtain ⟨o1, o2, o3⟩ := r6
  have m12 := (o1 k hk).1
  have hqp := (o1 k hk).2 q hq
  rw [hq, oi_s] at m12
  refine ⟨cuI (cuR Z 9 k (va_up (Z.2.1 9 k) 2 none)) 5 q (upd (Z.1 5 q) 4 0), ⟨r1, ?_, r3, r4, r5, ⟨fun i hi => ?_, fun i i' q' hi hi' e e' => ?_, fun q' hq' => ?_⟩, r7, r8, r9, r10⟩, rfl, ?_⟩
  · obtain ⟨t1, t2, t3, t4⟩ := r2
    refine ⟨t1, t2, fun i hi => ?_, t4⟩
    by_cases e : i = q
    · subst e
      rw [cuI_s]
      exact t3 i hi
    · rw [cuI_n (fun z => e z.2)]
      exact t3 i hi
  · show upd (M 12) k (-1) i = oi ((cuR Z 9 k (va_up (Z.2.1 9 k) 2 none)).2.1 9 i 2) ∧ ∀ q', (cuR Z 9 k (va_up (Z.2.1 9 k) 2 none)).2.1 9 i 2 = some q' → q' < Z.2.2 0
    by_cases e : i = k
    · subst e
      rw [cuR_s, vu_s, pk_us]
      exact ⟨rfl, fun q' z => by cases z⟩
    · rw [cuR_n (fun z => e z.2), pk_un e]
      exact o1 i hi
  · have w : ∀ i q', (cuR Z 9 k (va_up (Z.2.1 9 k) 2 none)).2.1 9 i 2 = some q' → Z.2.1 9 i 2 = some q' := fun i q' e => by
      by_cases ek : i = k
      · subst ek
        rw [cuR_s, vu_s] at e
        cases e
      · rw [cuR_n (fun z => ek z.2)] at e
        exact e
    exact o2 i i' q' hi hi' (w _ _ e) (w _ _ e')
  · have w : ∀ i, i ≠ k → (cuR Z 9 k (va_up (Z.2.1 9 k) 2 none)).2.1 9 i 2 = Z.2.1 9 i 2 := fun i e => by rw [cuR_n (fun z => e z.2)]
    have wk : (cuR Z 9 k (va_up (Z.2.1 9 k) 2 none)).2.1 9 k 2 = none := by rw [cuR_s, vu_s]
    show ((cuI (cuR Z 9 k (va_up (Z.2.1 9 k) 2 none)) 5 q (upd (Z.1 5 q) 4 0)).1 5 q' 4 = 1 ∧ ∃ i, i < Z.2.2 1 ∧ (cuR Z 9 k (va_up (Z.2.1 9 k) 2 none)).2.1 9 i 2 = some q') ∨ ((cuI (cuR Z 9 k (va_up (Z.2.1 9 k) 2 none)) 5 q (upd (Z.1 5 q) 4 0)).1 5 q' 4 = 0 ∧ ∀ i, i < Z.2.2 1 → (cuR Z 9 k (va_up (Z.2.1 9 k) 2 none)).2.1 9 i 2 ≠ some q')
    by_cases eq : q' = q
    · subst eq
      rw [cuI_s, pk_us]
      refine Or.inr ⟨rfl, fun i hi => ?_⟩
      by_cases ek : i = k
      · subst ek
        rw [wk]
        exact fun z => by cases z
      · rw [w i ek]
        exact fun z => ek (o2 i k q' hi hk z hq)
    · rw [cuI_n (fun z => eq z.2)]
      rcases o3 q' hq' with ⟨x1, i, x2, x3⟩ | ⟨x1, x2⟩
      · refine Or.inl ⟨x1, i, x2, ?_⟩
        rw [w i (fun ek => by subst ek; rw [hq] at x3; cases x3; exact eq rfl)]
        exact x3
      · refine Or.inr ⟨x1, fun i hi => ?_⟩
        by_cases ek : i = k
        · subst ek
          rw [wk]
          exact fun z => by cases z
        · rw [w i ek]
          exact x2 i hi
  · unfold fX6_takeBack
    rw [h'.playerAt hk, cx1_l, cLv9 hk, gdt, hq, op2_s, bnd_e]
    have h5 : cLv (cuR Z 9 k (va_up (Z.2.1 9 k) 2 none)).2.2 5 q = true := cLv5 hqp
    rw [h5, gdt, bnd_e, cuI_s]
    show some (Sum.inl (upd (Z.1 5 q) 4 0 0), _) = _
    rw [pk_un (by omega), r2.2.2.1 q hqp]
    rfl
theorem k_give_no (h' : uRR n Z M S C E P) {k q : Nat} (hk : k < Z.2.2 1) (hq : q < Z.2.2 0) (hx : Z.2.1 9 k 2 ≠ none) : fX6_give (nI k) (nI q) Z = some (.inr 3, Z) := by
  rcases hq1 : Z.2.1 9 k 2 with _ | q1
  · exact absurd hq1 hx
  · unfold fX6_give
    rw [h'.playerAt hk, cx1_l, h'.panAt hq, cx1_l, cLv9 hk, gdt, hq1, op2_s]
    rfl
theorem k_give (h : uRR n Z M S C E P) {k q : Nat} (hk : k < Z.2.2 1) (hq : q < Z.2.2 0) (hq1 : Z.2.1 9 k 2 = none) : fX6_give (nI k) (nI q) Z = some (.inr 3, Z) ∨ ∃ Z', uRR n Z' (va_up (va_up M 0 (fun _ => 0)) 12 (upd (M 12) k (nI q))) S C E P ∧ Z'.2.2 = Z.2.2 ∧ Z'.2.1 9 k 2 = some q ∧ fX6_give (nI k) (nI q) Z = some (.inl (), Z') := by
  have hnl := h.nl.1
  have hnp := h.np.1
  obtain ⟨r1, r2, r3, r4, r5, r6, r7, r8, r9, r10⟩ := h
  have h' : uRR n Z M S C E P := ⟨r1, r2, r3, r4, r5, r6, r7, r8, r9, r10⟩
  obtain ⟨o1, o2, o3⟩ := r6
  have m12 := (o1 k hk).1
  rw [hq1, oi_n] at m12
  rcases o3 q hq with ⟨x1, x2⟩ | ⟨x1, x2⟩
  · refine Or.inl ?_
    unfold fX6_give
    rw [h'.playerAt hk, cx1_l, h'.panAt hq, cx1_l, cLv9 hk, gdt, hq1, op2_n, cLv5 hq, gdt, x1, if_neg (by decide)]
    rfl
  · refine Or.inr ⟨cuI (cuR Z 9 k (va_up (Z.2.1 9 k) 2 (some q))) 5 q (upd (Z.1 5 q) 4 1), ⟨r1, ?_, r3, r4, r5, ⟨fun i hi => ?_, fun i i' q' hi hi' e e' => ?_, fun q' hq' => ?_⟩, r7, r8, r9, r10⟩, rfl, ?_, ?_⟩
    · obtain ⟨t1, t2, t3, t4⟩ := r2
      refine ⟨t1, t2, fun i hi => ?_, t4⟩
      by_cases e : i = q
      · subst e
        rw [cuI_s]
        exact t3 i hi
      · rw [cuI_n (fun z => e z.2)]
        exact t3 i hi
    · show upd (M 12) k (nI q) i = oi ((cuR Z 9 k (va_up (Z.2.1 9 k) 2 (some q))).2.1 9 i 2) ∧ ∀ q', (cuR Z 9 k (va_up (Z.2.1 9 k) 2 (some q))).2.1 9 i 2 = some q' → q' < Z.2.2 0
      by_cases e : i = k
      · subst e
        rw [cuR_s, vu_s, pk_us]
        exact ⟨rfl, fun q' z => by cases z; exact hq⟩
      · rw [cuR_n (fun z => e z.2), pk_un e]
        exact o1 i hi
    · have w : ∀ i q', (cuR Z 9 k (va_up (Z.2.1 9 k) 2 (some q))).2.1 9 i 2 = some q' → (i = k ∧ q' = q) ∨ Z.2.1 9 i 2 = some q' := fun i q' e => by
        by_cases ek : i = k
        · subst ek
          rw [cuR_s, vu_s] at e
          cases e
          exact Or.inl ⟨rfl, rfl⟩
        · rw [cuR_n (fun z => ek z.2)] at e
          exact Or.inr e
      rcases w _ _ e with ⟨y1, y2⟩ | y
      · rcases w _ _ e' with ⟨z1, _⟩ | z
        · rw [y1, z1]
        · rw [y2] at z
          exact absurd z (x2 i' hi')
      · rcases w _ _ e' with ⟨z1, z2⟩ | z
        · rw [z2] at y
          exact absurd y (x2 i hi)
        · exact o2 i i' q' hi hi' y z
    · have w : ∀ i, i ≠ k → (cuR Z 9 k (va_up (Z.2.1 9 k) 2 (some q))).2.1 9 i 2 = Z.2.1 9 i 2 := fun i e => by rw [cuR_n (fun z => e z.2)]
      have wk : (cuR Z 9 k (va_up (Z.2.1 9 k) 2 (some q))).2.1 9 k 2 = some q := by rw [cuR_s, vu_s]
      show ((cuI (cuR Z 9 k (va_up (Z.2.1 9 k) 2 (some q))) 5 q (upd (Z.1 5 q) 4 1)).1 5 q' 4 = 1 ∧ ∃ i, i < Z.2.2 1 ∧ (cuR Z 9 k (va_up (Z.2.1 9 k) 2 (some q))).2.1 9 i 2 = some q') ∨ ((cuI (cuR Z 9 k (va_up (Z.2.1 9 k) 2 (some q))) 5 q (upd (Z.1 5 q) 4 1)).1 5 q' 4 = 0 ∧ ∀ i, i < Z.2.2 1 → (cuR Z 9 k (va_up (Z.2.1 9 k) 2 (some q))).2.1 9 i 2 ≠ some q')
      by_cases eq : q' = q
      · subst eq
        rw [cuI_s, pk_us]
        exact Or.inl ⟨rfl, k, hk, wk⟩
      · rw [cuI_n (fun z => eq z.2)]
        rcases o3 q' hq' with ⟨y1, i, y2, y3⟩ | ⟨y1, y2⟩
        · refine Or.inl ⟨y1, i, y2, ?_⟩
          rw [w i (fun ek => by subst ek; rw [hq1] at y3; cases y3)]
          exact y3
        · refine Or.inr ⟨y1, fun i hi => ?_⟩
          by_cases ek : i = k
          · subst ek
            rw [wk]
            exact fun z => by cases z; exact eq rfl
          · rw [w i ek]
            exact y2 i hi
    · show (cuR Z 9 k (va_up (Z.2.1 9 k) 2 (some q))).2.1 9 k 2 = some q
      rw [cuR_s, vu_s]
    · unfold fX6_give
      rw [h'.playerAt hk, cx1_l, h'.panAt hq, cx1_l, cLv9 hk, gdt, hq1, op2_n, cLv5 hq, gdt, x1, if_pos (by decide)]
      unfold fX6_give_33
      have h5 : cLv (cuR Z 9 k (va_up (Z.2.1 9 k) 2 (some q))).2.2 5 q = true := cLv5 hq
      rw [c_rs_1, cx1_l, cLv9 hk, gdt, bnd_e, h5, gdt, bnd_e]
      rfl
theorem k_blow (hn : n < 512) (h : uRR n Z M S C E P) {i c : Nat} (hi : i < Z.2.2 0) (c32 : c < 32) : (¬ pB (uPS M i) c ∧ fX6_blow (nI i) (nI (c / 8)) (nI (pF c)) (nI (c % 2)) Z = some (.inr 3, Z)) ∨ (pB (uPS M i) c ∧ ∃ (Z' : CZ) (M' : MT), uRR (n + 1) Z' M' S C E P ∧ Z'.2 = Z.2 ∧ (∀ k, k ≠ 4 → k ≠ 5 → k ≠ 6 → M' k = M k) ∧ trep M' i (pt (uPS M i) c) ∧ fX6_blow (nI i) (nI (c / 8)) (nI (pF c)) (nI (c % 2)) Z = some (.inl (M' 4 (4 * i + c / 8)), Z')) := by
  have hnp := h.np.1
  have hF := pF_le c
  have hr := rr_t (b := 1) (c := 4) hF.1 hF.2 (by omega)
  have hf : c / 8 < 4 := by omega
  have hpb := h.pbd hi
  have ec : ∀ r, cl1 (fX1_bears i (nI (c / 8)) (nI (c % 2)) Z) (fun v11 => cx1 (fX6_requireState v11 Z) (fun x14 => some (.inr x14, Z)) (fun _ => cl1 (fX1_beat i (nI (c / 8)) (nI (pF c)) (nI (c % 2)) Z) (fun Z16 => gd (cLv Z16.2.2 5 i) (gd (gin (nI (c / 8)) 4) (some (.inl (Z16.1 6 i (nI (c / 8)).toNatClampNeg), Z16)))))) = r → fX6_blow (nI i) (nI (c / 8)) (nI (pF c)) (nI (c % 2)) Z = r := fun r hr9 => by
    unfold fX6_blow
    rw [h.panAt hi, cx1_l, c_ri_t4 hf, cx1_l, c_rr_t (b := 1) (c := 4) hr.1 hr.2, cx1_l, cLv5 hi, gdt]
    exact hr9
  rcases c_bears (cLv5 hi) (h.zrep hi) (h.pbd hi) (by omega) c32 with ⟨hB, cb⟩ | ⟨hB, cb⟩
  · obtain ⟨Z2, w1, w2, w3, w4⟩ := c_beat (a := i) (fun Z' e => by rw [e]; exact cLv5 hi) (show cLv Z.2.2 6 i = true from cLv5 hi) (h.zrep hi) (h.pbd hi) (by omega) c32
    obtain ⟨T, hT⟩ : ∃ T : (Nat → Int32) → Nat → Nat → Int32, ∀ m k j, T m k j = if 4 * i ≤ j ∧ j < 4 * i + 4 then Z2.1 k i (j - 4 * i) else m j := ⟨fun m k j => if 4 * i ≤ j ∧ j < 4 * i + 4 then Z2.1 k i (j - 4 * i) else m j, fun _ _ _ => rfl⟩
    have Ts : ∀ m k f, f < 4 → T m k (4 * i + f) = Z2.1 k i f := fun m k f hf => by rw [hT, if_pos (by omega), Nat.add_sub_cancel_left]
    have Tn : ∀ m k i' f, i' ≠ i → f < 4 → T m k (4 * i' + f) = m (4 * i' + f) := fun m k i' f hi' hf => by rw [hT, if_neg (by omega)]
    have Tb : ∀ m k j, 4 * Z.2.2 0 ≤ j → T m k j = m j := fun m k j hj => by rw [hT, if_neg (by omega)]
    refine Or.inr ⟨hB, Z2, va_up (va_up (va_up M 4 (T (M 4) 6)) 5 (T (M 5) 7)) 6 (T (M 6) 8), ?_, w2, fun k k4 k5 k6 => by rw [vu_n k6, vu_n k5, vu_n k4], fun f hf => ?_, ec _ ?_⟩
    · obtain ⟨r1, r2, r3, r4, r5, r6, r7, r8, r9, r10, r11, r12⟩ := h
      have hs := r2.2.2.2.1
      have zk : ∀ k, k ≠ 6 → k ≠ 7 → k ≠ 8 → Z2.1 k = Z.1 k := fun k k6 k7 k8 => funext fun j => w3 k j (fun q => q.1.elim k6 (fun q => q.elim k7 k8))
      unfold uRR
      rw [w2, zk 0 (by omega) (by omega) (by omega), zk 3 (by omega) (by omega) (by omega), zk 5 (by omega) (by omega) (by omega), zk 9 (by omega) (by omega) (by omega), zk 10 (by omega) (by omega) (by omega), zk 11 (by omega) (by omega) (by omega), zk 12 (by omega) (by omega) (by omega), zk 14 (by omega) (by omega) (by omega)]
      refine ⟨r1, ⟨r2.1, r2.2.1, r2.2.2.1, fun i' g hi' hg => ?_, fun j j1 j2 => ?_⟩, r3, r4, r5, r6, r7, r8, r9, r10, r11, r12⟩
      · show Z2.1 6 i' g = T (M 4) 6 (4 * i' + g) ∧ Z2.1 7 i' g = T (M 5) 7 (4 * i' + g) ∧ Z2.1 8 i' g = T (M 6) 8 (4 * i' + g) ∧ (-(60 + 24 * ((n + 1 : Nat) : Int)) ≤ (T (M 4) 6 (4 * i' + g)).toInt ∧ (T (M 4) 6 (4 * i' + g)).toInt ≤ 60 + 24 * ((n + 1 : Nat) : Int)) ∧ (∃ c, c ≤ 7 ∧ T (M 5) 7 (4 * i' + g) = nI c) ∧ (T (M 6) 8 (4 * i' + g) = 0 ∨ T (M 6) 8 (4 * i' + g) = 1)
        obtain ⟨s1, s2, s3, s4, s5, s6⟩ := hs i' g hi' hg
        by_cases ei : i' = i
        · obtain ⟨p1, p2, p3⟩ := w4 g hg
          have near := pt_near (uPS M i) c g
          rw [ei] at s4 ⊢
          have bd1 : -(60 + 24 * (n : Int)) ≤ (uPS M i).1 g ∧ (uPS M i).1 g ≤ 60 + 24 * (n : Int) := s4
          have b7 := (hpb g hg).2
          have hB1 := hB.1
          rw [Ts _ _ g hg, Ts _ _ g hg, Ts _ _ g hg]
          refine ⟨rfl, rfl, rfl, by rw [p1]; omega, ⟨(pt (uPS M i) c).2.1 g, ?_, p2⟩, ?_⟩
          · show (if g = c / 8 then (uPS M i).2.1 g + 1 else (uPS M i).2.1 g) ≤ 7
            split
            · rename_i e
              rw [← e] at hB1
              omega
            · exact b7
          · rw [p3]
            split
            · exact Or.inr rfl
            · exact Or.inl rfl
        · rw [Tn _ _ _ _ ei hg, Tn _ _ _ _ ei hg, Tn _ _ _ _ ei hg, w3 6 i' (fun q => ei q.2), w3 7 i' (fun q => ei q.2), w3 8 i' (fun q => ei q.2)]
          exact ⟨s1, s2, s3, ⟨by omega, by omega⟩, s5, s6⟩
      · show T (M 5) 7 j = 0 ∧ T (M 6) 8 j = 0
        rw [Tb _ _ j j1, Tb _ _ j j1]
        exact r2.2.2.2.2 j j1 j2
    · show (T (M 4) 6 (4 * i + f)).toInt = _ ∧ T (M 5) 7 (4 * i + f) = _ ∧ T (M 6) 8 (4 * i + f) = _
      rw [Ts _ _ f hf, Ts _ _ f hf, Ts _ _ f hf]
      exact w4 f hf
    · rw [cb, cl1_s, c_rs_1, cx1_l, w1, cl1_s, w2, cLv5 hi, gdt, gdn hf (by omega), nIc (by omega)]
      show some (Sum.inl (Z2.1 6 i (c / 8)), Z2) = some (Sum.inl (T (M 4) 6 (4 * i + c / 8)), Z2)
      rw [Ts _ _ _ hf]
  · refine Or.inl ⟨hB, ec _ ?_⟩
    rw [cb, cl1_s, c_rs_0, cx1_r]
theorem k_change_ec (h : uRR n Z M S C E P) {b pl v : Nat} (hb : b < 4) (hpl : pl < C b) (hv : v ≤ 11) : ∀ r, (if nI v = M 18 (24 * b + pl) then fX6_change_54 (M 18 (24 * b + pl)) Z else cl1 (fX0_spoilPhrase b (nI (pl / 4)) (cuI Z 11 b (upd (Z.1 11 b) pl (nI v)))) (fun Z15 => fX6_change_54 (M 18 (24 * b + pl)) Z15)) = r → fX6_change (nI b) (nI pl) (nI v) Z = r := fun r hr => by
  obtain ⟨hC, hM, hZ⟩ := h.nC hb
  have hr9 := rr_t (b := 0) (c := 11) (by omega) hv (by omega)
  have gz := (h.2.2.2.2.2.2.2.2.2.1 b hb).2.2.2 pl (by omega)
  unfold fX6_change
  rw [h.bandAt hb, cx1_l, cLv10 hb, gdt, hZ, c_ri_t hpl (by omega), cx1_l, c_rr_t (b := 0) (c := 11) hr9.1 hr9.2, cx1_l, gdn (by omega) (by omega), bnd_e, gdn (by omega) (by omega), bnd_e, nIc (by omega), gz.1, u_d4 (by omega)]
  exact hr
theorem k_change_eq (h : uRR n Z M S C E P) {b pl v : Nat} (hb : b < 4) (hpl : pl < C b) (hv : v ≤ 11) (he : nI v = M 18 (24 * b + pl)) : fX6_change (nI b) (nI pl) (nI v) Z = some (.inl (M 18 (24 * b + pl)), Z) := by
  refine k_change_ec h hb hpl hv _ ?_
  rw [if_pos he]
  rfl
theorem k_change (h : uRR n Z M S C E P) {b pl v : Nat} (hb : b < 4) (hpl : pl < C b) (hv : v ≤ 11) (he : ¬ nI v = M 18 (24 * b + pl)) : ∃ (Z' : CZ) (M' : MT), uRR n Z' M' S C E P ∧ Z'.2 = Z.2 ∧ (∀ k, k ≠ 18 → k ≠ 19 → M' k = M k) ∧ M' 18 = upd (M 18) (24 * b + pl) (nI v) ∧ (∀ k, k < S b → M' 19 (6 * (8 * b + k) + pl / 4) = if M 19 (6 * (8 * b + k) + pl / 4) = 1 then 2 else M 19 (6 * (8 * b + k) + pl / 4)) ∧ fX6_change (nI b) (nI pl) (nI v) Z = some (.inl (M 18 (24 * b + pl)), Z') := by
  obtain ⟨hC, hM, hZ⟩ := h.nC hb
  have hS := h.nS hb
  have ec := k_change_ec h hb hpl hv
  obtain ⟨Z'', y1, y2, y3, y4, y5⟩ := c_spoil h hb (show pl / 4 < 6 by omega) (S b) 0 100 (cuI Z 11 b (upd (Z.1 11 b) pl (nI v))) (by omega) (by omega) rfl (fun k _ hk => funext fun i => by rw [cuI_n (fun q => hk q.1)])
  obtain ⟨m19, z3, z4⟩ : ∃ m19 : Nat → Int32, (∀ k, 0 ≤ k → k < S b → m19 (6 * (8 * b + k) + pl / 4) = if M 19 (6 * (8 * b + k) + pl / 4) = 1 then 2 else M 19 (6 * (8 * b + k) + pl / 4)) ∧ ∀ i, ¬ (∃ k, 0 ≤ k ∧ k < S b ∧ i = 6 * (8 * b + k) + pl / 4) → m19 i = M 19 i := by
    refine ⟨fun i => if i % 6 = pl / 4 ∧ 8 * b ≤ i / 6 ∧ i / 6 < 8 * b + S b then (if M 19 i = 1 then 2 else M 19 i) else M 19 i, fun k _ hk => if_pos (by omega), fun i q => if_neg (fun w => q ⟨i / 6 - 8 * b, by omega, by omega, by omega⟩)⟩
  obtain ⟨r1, r2, r3, r4, r5, r6, r7, r8, r9, r10, r11⟩ := h
  have h9 : uR9 S E (Z''.1 14) (m19) := by
    intro b' k j hb' hk hj
    obtain ⟨g1, g2⟩ := r9 b' k j hb' hk hj
    have hS' := (r7.1 b' hb').1
    by_cases hh : b' = b ∧ j = pl / 4
    · obtain ⟨rfl, rfl⟩ := hh
      rw [y4 k (by omega) hk, z3 k (by omega) hk]
      show (if (cuI Z 11 b' (upd (Z.1 11 b') pl (nI v))).1 14 (E b' k) (pl / 4) = 1 then (2 : Int32) else (cuI Z 11 b' (upd (Z.1 11 b') pl (nI v))).1 14 (E b' k) (pl / 4)) = (if M 19 (6 * (8 * b' + k) + pl / 4) = 1 then (2 : Int32) else M 19 (6 * (8 * b' + k) + pl / 4)) ∧ ((if M 19 (6 * (8 * b' + k) + pl / 4) = 1 then (2 : Int32) else M 19 (6 * (8 * b' + k) + pl / 4)) = 0 ∨ (if M 19 (6 * (8 * b' + k) + pl / 4) = 1 then (2 : Int32) else M 19 (6 * (8 * b' + k) + pl / 4)) = 1 ∨ (if M 19 (6 * (8 * b' + k) + pl / 4) = 1 then (2 : Int32) else M 19 (6 * (8 * b' + k) + pl / 4)) = 2)
      rw [cuI_n (fun q => by omega), g1]
      refine ⟨rfl, ?_⟩
      split
      · exact Or.inr (Or.inr rfl)
      · exact g2
    · rw [y5 _ _ (fun q => by
        obtain ⟨q1, k', q2, q3, q4⟩ := q
        exact hh ⟨(r7.2.2.2.1 b' k b k' hb' hk hb q3 q4).1, q1⟩), z4 _ (fun q => by
        obtain ⟨k', q2, q3, q4⟩ := q
        have := (r7.1 b hb).1
        exact hh ⟨by omega, by omega⟩), cuI_n (fun q => by omega)]
      exact ⟨g1, g2⟩
  have eZ : Z'' = (va_up (cuI Z 11 b (upd (Z.1 11 b) pl (nI v))).1 14 (Z''.1 14), Z.2) := zz_eq (up_eq y3) y2
  have h10 : uR10 C (Z.1 10) ((cuI Z 11 b (upd (Z.1 11 b) pl (nI v))).1 11) (M 17) (upd (M 18) (24 * b + pl) (nI v)) := by
    intro b' hb'
    obtain ⟨g1, g2, g3, g4⟩ := r10 b' hb'
    refine ⟨g1, g2, g3, fun j hj => ?_⟩
    by_cases hbb : b' = b
    · subst hbb
      rw [cuI_s]
      by_cases hjj : j = pl
      · subst hjj
        rw [pk_us, pk_us]
        exact ⟨rfl, v, by omega, rfl⟩
      · rw [pk_un hjj, pk_un (by omega)]
        exact g4 j hj
    · rw [cuI_n (fun q => hbb q.2), pk_un (by omega)]
      exact g4 j hj
  refine ⟨Z'', va_up (va_up M 18 (upd (M 18) (24 * b + pl) (nI v))) 19 m19, ?_, y2, fun k k1 k2 => by rw [vu_n k2, vu_n k1], by rw [vu_n (by omega), vu_s], fun k hk => by rw [vu_s]; exact z3 k (by omega) hk, ec _ ?_⟩
  · rw [eZ]
    exact ⟨r1, r2, r3, r4, r5, r6, r7, r8, h9, h10, r11⟩
  · rw [if_neg he]
    have y1' : fX0_spoilPhrase b (nI (pl / 4)) (cuI Z 11 b (upd (Z.1 11 b) pl (nI v))) = some Z'' := y1
    rw [y1', cl1_s]
    rfl
theorem k_drill_ec (h : uRR n Z M S C E P) {b j : Nat} (hb : b < 4) (hj : j < C b / 4) : ∀ r, (if (if S b = 0 then (1 : Int32) else 0) = 0 then (if Z.1 10 b 4 = Z.1 0 0 6 then fX6_drill_36 (nI j) b Z else fX6_drill_37 (nI j) b 1 Z) else fX6_drill_36 (nI j) b Z) = r → fX6_drill (nI b) (nI j) Z = r := by
  have hS := h.nS hb
  have hls := h.ls4 hb
  have hem : fJx4a65c_isEmpty_aae02 (b + 4) Z = some (if S b = 0 then 1 else 0) := by
    unfold fJx4a65c_isEmpty_aae02
    rw [cLv3 (by omega), gdt, hls.1]
    by_cases h0 : S b = 0
    · rw [h0, if_pos (by decide), if_pos (by decide)]
      rfl
    · rw [if_neg (by rw [nIz (by omega)]; exact h0), if_neg h0]
      rfl
  intro r hr
  unfold fX6_drill
  rw [h.bandAt hb, cx1_l, h.phr hb hj, cx1_l, cLv10 hb, gdt, cLv3 (by omega), gdt, hem, cl1_s]
  exact hr
theorem k_drill_no (h : uRR n Z M S C E P) {b j : Nat} (hb : b < 4) (hj : j < C b / 4) (hx : S b = 0 ∨ M 21 b = M 1 0) : fX6_drill (nI b) (nI j) Z = some (.inr 3, Z) := by
  have g11 := h.2.2.2.2.2.2.2.2.2.2.1 b hb
  refine k_drill_ec h hb hj _ ?_
  by_cases h0 : S b = 0
  · rw [if_pos h0, if_neg (by decide)]
    rfl
  · rw [if_neg h0, if_pos (by decide), g11.1, h.1.2.1, if_pos (hx.resolve_left h0)]
    rfl
theorem k_drill (hn : n < 512) (h : uRR n Z M S C E P) {b j : Nat} (hb : b < 4) (hj : j < C b / 4) (h0 : ¬ S b = 0) (hd : ¬ M 21 b = M 1 0) : ∃ (Z' : CZ) (M' : MT), uRR (n + 1) Z' M' S C E P ∧ Z'.2 = Z.2 ∧ (∀ k, k ≠ 4 → k ≠ 19 → k ≠ 21 → M' k = M k) ∧ M' 21 = upd (M 21) b (M 1 0) ∧ M' 4 = uwr (fun k => Z.2.1 9 (P b k) 2) (M 4) (S b) ∧ (∀ k, k < S b → M' 19 (6 * (8 * b + k) + j) = uLK (M 19) S P b j k) ∧ fX6_drill (nI b) (nI j) Z = some (.inl (nI (uct (uLK (M 19) S P b j) (S b))), Z') := by
  have hS := h.nS hb
  have hC := (h.nC hb).1
  have g11 := h.2.2.2.2.2.2.2.2.2.2.1 b hb
  have ec := k_drill_ec h hb hj
  have hj6 : j < 6 := by omega
  obtain ⟨Za, a1, a2, a3, a4, a5⟩ := c_lp h hb hj6 (S b) 0 100 Z (by omega) (by omega) rfl (fun _ _ => rfl) (fun k _ hk => (h.2.2.2.2.2.2.2.2.1 b k j hb hk hj6).1)
  obtain ⟨Zb, b1, b2, b3, b4⟩ := c_wear h hb (T := M 4) (S b) 0 100 Za (by omega) (by omega) a2 (a3 3 (by omega)) (fun i f hi hf => by rw [a3 6 (by omega)]; exact (h.2.1.2.2.2.1 i f hi hf).1)
  have a1' : fX0_learnPhrase b (nI j) Z = some Za := a1
  have b1' : fX0_wearPans b Za = some Zb := b1
  have k06 : Zb.1 0 0 6 = M 1 0 := by
    rw [b3 0 (by omega), a3 0 (by omega)]
    exact h.1.2.1
  have b14 : Zb.1 14 = Za.1 14 := b3 14 (by omega)
  have cr := c_cr h hb hj6 (Z' := cuI Zb 10 b (upd (Zb.1 10 b) 4 (M 1 0))) (f := uLK (M 19) S P b j) b2 (by rw [show (cuI Zb 10 b (upd (Zb.1 10 b) 4 (M 1 0))).1 3 = Zb.1 3 from rfl, b3 3 (by omega), a3 3 (by omega)]) (fun k hk => by
    rw [show (cuI Zb 10 b (upd (Zb.1 10 b) 4 (M 1 0))).1 14 = Zb.1 14 from rfl, b14]
    exact a4 k (by omega) hk) (S b) 0 100 (by omega) (by omega)
  have cr' : fX0_countRight b (nI j) (cuI Zb 10 b (upd (Zb.1 10 b) 4 (M 1 0))) = some (nI (uct (uLK (M 19) S P b j) (S b))) := cr
  have h1 : uRR n (cuI Z 10 b (upd (Z.1 10 b) 4 (M 1 0))) (va_up M 21 (upd (M 21) b (M 1 0))) S C E P := by
    obtain ⟨r1, r2, r3, r4, r5, r6, r7, r8, r9, r10, r11, r12⟩ := h
    refine ⟨r1, r2, r3, r4, r5, r6, r7, r8, r9, fun b' hb' => ?_, fun b' hb' => ?_, r12⟩
    · obtain ⟨t1, t2, t3, t4⟩ := r10 b' hb'
      refine ⟨t1, t2, ?_, t4⟩
      by_cases hbb : b' = b
      · subst hbb
        rw [cuI_s]
        exact t3
      · rw [cuI_n (fun q => hbb q.2)]
        exact t3
    · have t := r11 b' hb'
      show (cuI Z 10 b (upd (Z.1 10 b) 4 (M 1 0))).1 10 b' 4 = upd (M 21) b (M 1 0) b' ∧ (cuI Z 10 b (upd (Z.1 10 b) 4 (M 1 0))).1 10 b' 6 = M 24 b' ∧ (M 22 b' = 0 ∧ (cuI Z 10 b (upd (Z.1 10 b) 4 (M 1 0))).1 10 b' 5 = -1 ∧ M 25 b' = 0 ∨ M 22 b' = 1 ∧ (cuI Z 10 b (upd (Z.1 10 b) 4 (M 1 0))).1 10 b' 5 = M 23 b' ∧ ∃ h, h < 1000 ∧ M 23 b' = nI h)
      by_cases hbb : b' = b
      · subst hbb
        rw [cuI_s, pk_us, pk_us]
        exact ⟨rfl, t.2⟩
      · rw [cuI_n (fun q => hbb q.2), pk_un hbb]
        exact t
  obtain ⟨m19, n4, n5⟩ : ∃ m19 : Nat → Int32, (∀ k, 0 ≤ k → k < S b → m19 (6 * (8 * b + k) + j) = uLK (M 19) S P b j k) ∧ ∀ i, ¬ (∃ k, 0 ≤ k ∧ k < S b ∧ i = 6 * (8 * b + k) + j) → m19 i = M 19 i := by
    refine ⟨fun i => if i % 6 = j ∧ 8 * b ≤ i / 6 ∧ i / 6 < 8 * b + S b then uLK (M 19) S P b j (i / 6 - 8 * b) else M 19 i, fun k _ hk => ?_, fun i q => if_neg (fun w => q ⟨i / 6 - 8 * b, by omega, by omega, by omega⟩)⟩
    show (if (6 * (8 * b + k) + j) % 6 = j ∧ 8 * b ≤ (6 * (8 * b + k) + j) / 6 ∧ (6 * (8 * b + k) + j) / 6 < 8 * b + S b then uLK (M 19) S P b j ((6 * (8 * b + k) + j) / 6 - 8 * b) else M 19 (6 * (8 * b + k) + j)) = _
    rw [if_pos (by omega), show (6 * (8 * b + k) + j) / 6 - 8 * b = k by omega]
  have eZb : Zb = (va_up (va_up Z.1 14 (Zb.1 14)) 6 (Zb.1 6), Z.2) := zz_eq (up_eq2 (fun k k1 k2 => by rw [b3 k k2, a3 k k1])) b2
  have H : uRR (n + 1) (cuI (va_up (va_up Z.1 14 (Zb.1 14)) 6 (Zb.1 6), Z.2) 10 b (upd (Z.1 10 b) 4 (M 1 0))) (va_up (va_up (va_up M 21 (upd (M 21) b (M 1 0))) 19 m19) 4 (uwr (fun k => Z.2.1 9 (P b k) 2) (M 4) (S b))) S C E P := by
    obtain ⟨q1, q2, q3, q4, q5, q6, q7, q8, q9, q10, q11, q12⟩ := h1
    refine ⟨q1, ?_, q3, q4, q5, q6, q7, q8, fun b' k j' hb' hk hj' => ?_, q10, q11, q12⟩
    · obtain ⟨t1, t2, t3, t4, t5⟩ := h.2.1
      refine ⟨t1, t2, t3, fun i f hi hf => ?_, t5⟩
      obtain ⟨s1, s2, s3, s4, s5⟩ := t4 i f hi hf
      have bd := uwr_bd (o := fun k => Z.2.1 9 (P b k) 2) (T := M 4) (j := 4 * i + f) (by omega) (S b) (by omega)
      refine ⟨?_, s2, s3, ?_, s5⟩
      · show Zb.1 6 i f = uwr (fun k => Z.2.1 9 (P b k) 2) (M 4) (S b) (4 * i + f)
        exact b4 i f hi hf
      · show -(60 + 24 * ((n + 1 : Nat) : Int)) ≤ (uwr (fun k => Z.2.1 9 (P b k) 2) (M 4) (S b) (4 * i + f)).toInt ∧ (uwr (fun k => Z.2.1 9 (P b k) 2) (M 4) (S b) (4 * i + f)).toInt ≤ 60 + 24 * ((n + 1 : Nat) : Int)
        have bd' : (M 4 (4 * i + f)).toInt - ((S b : Nat) : Int) ≤ (uwr (fun k => Z.2.1 9 (P b k) 2) (M 4) (S b) (4 * i + f)).toInt ∧ (uwr (fun k => Z.2.1 9 (P b k) 2) (M 4) (S b) (4 * i + f)).toInt ≤ (M 4 (4 * i + f)).toInt := bd
        omega
    · obtain ⟨g1, g2⟩ := h.2.2.2.2.2.2.2.2.1 b' k j' hb' hk hj'
      have hS' := (h.nS hb').1
      show Zb.1 14 (E b' k) j' = m19 (6 * (8 * b' + k) + j') ∧ (m19 (6 * (8 * b' + k) + j') = 0 ∨ m19 (6 * (8 * b' + k) + j') = 1 ∨ m19 (6 * (8 * b' + k) + j') = 2)
      by_cases hh : b' = b ∧ j' = j
      · obtain ⟨rfl, rfl⟩ := hh
        rw [b14, a4 k (by omega) hk, n4 k (by omega) hk]
        refine ⟨rfl, ulr_or g2 ?_ ?_⟩
        · unfold ulw
          split
          · exact Or.inl rfl
          · exact (h.2.2.2.2.2.2.2.2.1 b' (k - 1) j' hb' (by omega) hj').2
        · unfold uhg
          split
          · exact (h.2.2.2.2.2.2.2.2.1 b' (k + 1) j' hb' (by assumption) hj').2
          · exact Or.inl rfl
      · rw [b14, a5 _ _ (fun q => by
          obtain ⟨y1, k', y2, y3, y4⟩ := q
          exact hh ⟨(h.inj b' k b k' hb' hk hb y3 y4).1, y1⟩), n5 _ (fun q => by
          obtain ⟨k', y2, y3, y4⟩ := q
          have := hS.1
          exact hh ⟨by omega, by omega⟩)]
        exact ⟨g1, g2⟩
  refine ⟨cuI Zb 10 b (upd (Zb.1 10 b) 4 (M 1 0)), va_up (va_up (va_up M 21 (upd (M 21) b (M 1 0))) 19 m19) 4 (uwr (fun k => Z.2.1 9 (P b k) 2) (M 4) (S b)), ?_, b2, fun k k1 k2 k3 => by rw [vu_n k1, vu_n k2, vu_n k3], by rw [vu_n (by omega), vu_n (by omega), vu_s], by rw [vu_s], fun k hk => by rw [vu_n (by omega), vu_s]; exact n4 k (by omega) hk, ec _ ?_⟩
  · have e10 : Zb.1 10 b = Z.1 10 b := by rw [b3 10 (by omega), a3 10 (by omega)]
    rw [e10, eZb]
    exact H
  · rw [if_neg h0, if_pos (by decide), g11.1, h.1.2.1, if_neg hd]
    unfold fX6_drill_37
    have l10b : cLv Zb.2.2 10 b = true := cLv10 hb
    have l10a : cLv Za.2.2 10 b = true := cLv10 hb
    rw [c_rs_1, cx1_l, cLv10 hb, gdt, a1', cl1_s, l10a, gdt, b1', cl1_s, l10b, gdt, bnd_e, k06, cr', cl1_s]
end URW9
